/-! ===== spread: a value that no object has ===== -/
theorem sp_no {v r len : Nat} {s : kHS} (hl : len ≤ 6) (hv : ∀ x, x ≤ 9 → weq x v = false) (hx : ∀ k, k < len → ∃ x, x ≤ 9 ∧ daldG tb0 s.1 r k = some x) : ∀ (j i n : Nat), i + j = len → lp_X12_spread tb0 (n + j + 1) v 0 r len i s = some (.inl 0, s)
  | 0, i, n, h => by
    rw [lp_X12_spread_s0]
    unfold lb0_X12_spread
    have e1 : wle len i = true := by
      have : len = i := by omega
      subst this
      unfold wle
      exact Nat.ble_eq.mpr (Nat.le_refl _)
    rw [e1, cond_true]
  | j + 1, i, n, h => by
    have ih := sp_no hl hv hx j (i + 1) n (by omega)
    obtain ⟨x, hx9, hd⟩ := hx i (by omega)
    rw [show n + (j + 1) + 1 = (n + j + 1) + 1 from rfl, lp_X12_spread_s0]
    unfold lb0_X12_spread
    have e1 : wle len i = false := by
      unfold wle
      rw [← Bool.not_eq_true, Nat.ble_eq]
      show ¬ ((len + 2147483648) % 4294967296 ≤ (i + 2147483648) % 4294967296)
      omega
    have ea : wadd i 1 = i + 1 := by
      show (i + 1) % 4294967296 = i + 1
      omega
    rw [e1, cond_false, ob_mk hd, hv x hx9, show (!false) = true from rfl, cond_true, dl_2, dl_2, show wadd 0 0 = 0 by decide +kernel, ea]
    exact ih
noncomputable def okV (len : Nat) (y : Option (dR Nat)) : Bool := match y with
  | some (.inl r, s) => (decide (dalenG tb0 s.1 r = some len) && (List.range len).all (fun k => match daldG tb0 s.1 r k with | some x => Nat.ble x 9 | none => false)) && ((decide (f_X12_thrown s.1 70 = some 0) && (decide (dtag nS c_X12 s.1 70 = some ()) && decide (dald nS 101 vL s.1 82 0 = some 0))) && ((Nat.ble s.2.1 600000 && Nat.ble s.2.2 7302000) && (Nat.ble 63 s.2.1 && Nat.ble 2301 s.2.2)))
  | _ => false
theorem okV_spec {len : Nat} {y : Option (dR Nat)} (h : okV len y = true) : ∃ (r : Nat) (s : kHS), y = some (.inl r, s) ∧ dalenG tb0 s.1 r = some len ∧ (∀ k, k < len → ∃ x, x ≤ 9 ∧ daldG tb0 s.1 r k = some x) ∧ f_X12_thrown s.1 70 = some 0 ∧ dtag nS c_X12 s.1 70 = some () ∧ dald nS 101 vL s.1 82 0 = some 0 ∧ (Nat.ble s.2.1 600000 && Nat.ble s.2.2 7302000) = true ∧ (Nat.ble 63 s.2.1 && Nat.ble 2301 s.2.2) = true := by
  unfold okV at h
  split at h
  · rename_i r s
    simp only [Bool.and_eq_true, decide_eq_true_eq] at h
    obtain ⟨⟨h1, h2⟩, ⟨h3, h4, h5⟩, ⟨h6, h6b⟩, h7, h7b⟩ := h
    refine ⟨r, s, rfl, h1, fun k hk => ?_, h3, h4, h5, by rw [h6, h6b]; rfl, by rw [h7, h7b]; rfl⟩
    have h9 := List.all_eq_true.mp h2 k (List.mem_range.mpr hk)
    split at h9
    · rename_i x e
      exact ⟨x, Nat.le_of_ble_eq_true h9, e⟩
    · cases h9
  · cases h
set_option maxRecDepth 100000 in
theorem refuse_I : f_X12_refuse 70 0 2 sI = some (.inl 0, sI) := by decide +kernel
set_option maxRecDepth 100000 in
theorem dast_I : dast nS 101 sI 82 0 (.long (lN (xi 0))) = some sI := by decide +kernel
set_option maxRecDepth 100000 in
theorem okV_0_0 : okV 5 (f_X12_statistics tb0 70 0 0 sI) = true := by decide +kernel
set_option maxRecDepth 100000 in
theorem cnt_0_0 : ∀ v, v < 37 → 10 ≤ v → f_X4_countOf tb0 sI.1 29 0 0 v = some 0 := by decide +kernel
theorem cno_0_0 {v : Nat} (h : v < 4294967296) (hx : ¬ v < 10) : f_X4_countOf tb0 sI.1 29 0 0 v = some 0 := by
  by_cases h37 : v < 37
  · exact cnt_0_0 v h37 (by omega)
  · unfold f_X4_countOf
    rw [ob_mk (show dgR nS c_X4 5 sI.1 29 = some 57 from rfl), show wadd (wmul 0 4) 0 = 0 by decide +kernel]
    unfold f_X5_at_
    rw [show Nat.beq 57 0 = false from rfl, cond_false, show wlt 0 0 = false by decide +kernel, cond_false, ob_mk (show dalenG tb0 sI.1 57 = some 12 from rfl), show wle 12 0 = false by decide +kernel, cond_false, ob_mk (show daldA nS sI.1 57 0 = some 58 from rfl), show Nat.beq 58 0 = false from rfl, cond_false, ob_mk (show dalenG tb0 sI.1 58 = some 37 from rfl)]
    rcases wlt_out h (by decide) h37 with e | ⟨e, -⟩
    · rw [e]; rfl
    · have e2 : wle 37 v = true := by
        rcases wl_c h 37 (by decide) with h1 | h1 | ⟨h0, h1⟩
        · exact absurd h1 h37
        · rw [(wl_n h1 h (k := 0) (by decide)).1] at e; cases e
        · exact (wl_e h0 h1).2
      rw [e, cond_false, e2]; rfl
theorem C11_0_0 {v : Nat} (h : v < 4294967296) (hx : ¬ v < 10) : f_L_spread tb0 21 0 0 v 82 sI = some (.inl 0, sI) := by
  unfold f_L_spread f_X9_spread
  rw [show f_X9_needFamily 0 sI = some (.inl (), sI) from rfl, obW_l, show f_X9_needStatistic 0 sI = some (.inl (), sI) from rfl, obW_l, ob_mk (show dgR nS c_X9 5 sI.1 21 = some 29 from rfl), ob_mk (show dtag nS c_X4 sI.1 29 = some () from rfl), cno_0_0 h hx, ob_s2, ob_mk (show dtag nS c_X9 sI.1 21 = some () from rfl), show dchk sI (some (Sum.inl 0, sI) : Option (dR Nat)) = some (.inl 0, sI) from rfl, obX_l, dast_I, ob_s2]
  rfl
theorem v11_0_0 {v : Nat} (h : v < 4294967296) (hx : ¬ v < 10) (d : Nat) : good (op_11 0 0 v d sI) = true := by
  obtain ⟨r, s, h1, h2, h3, h4, h5, h6, h7, h8⟩ := okV_spec okV_0_0
  have hv : ∀ x, x ≤ 9 → weq x v = false := fun x hx9 => weq_ne (by omega) h (by omega)
  have hR : f_X12_spread tb0 70 0 0 v sI = some (.inl 0, s) := by
    unfold f_X12_spread
    rw [ob_mk (show f_X12_isNoFamily 0 = some 0 from rfl), ob_mk (show dtag nS c_X12 sI.1 70 = some () from rfl), start_I, obW_l, show (!weq 0 0) = false from rfl, cond_false, ob_mk (show f_X12_isNoStatistic 0 = some 0 from rfl), ob_mk (show dtag nS c_X12 sI.1 70 = some () from rfl), refuse_I, obW_l, show weq 0 0 = true from rfl, cond_true, ob_mk (show dtag nS c_X12 sI.1 70 = some () from rfl), h1, obW_l, h2, ob_s2, show dF = 99994 + 5 + 1 from rfl, sp_no (by decide) hv h3 5 0 99994 rfl]
    unfold dchk
    rw [ob_s2]
    show (bif Nat.ble 63 s.2.1 && Nat.ble 2301 s.2.2 then _ else none) = _
    rw [h8]
    rfl
  unfold op_11
  rw [C11_0_0 h hx, obW_l, ob_mk (show dtag nS c_X12 sI.1 70 = some () from rfl), hR, obW_l, ob_mk h5, ob_mk h4, show weq 0 0 = true from rfl, cond_true, show (!true) = false from rfl, cond_false, ob_mk h6, show weq (xcmp 0 (xi 0)) 0 = true by decide +kernel, cond_true]
  exact good_1 h7
set_option maxRecDepth 100000 in
theorem okV_0_1 : okV 5 (f_X12_statistics tb0 70 0 1 sI) = true := by decide +kernel
set_option maxRecDepth 100000 in
theorem cnt_0_1 : ∀ v, v < 37 → 10 ≤ v → f_X4_countOf tb0 sI.1 29 0 1 v = some 0 := by decide +kernel
theorem cno_0_1 {v : Nat} (h : v < 4294967296) (hx : ¬ v < 10) : f_X4_countOf tb0 sI.1 29 0 1 v = some 0 := by
  by_cases h37 : v < 37
  · exact cnt_0_1 v h37 (by omega)
  · unfold f_X4_countOf
    rw [ob_mk (show dgR nS c_X4 5 sI.1 29 = some 57 from rfl), show wadd (wmul 0 4) 1 = 1 by decide +kernel]
    unfold f_X5_at_
    rw [show Nat.beq 57 0 = false from rfl, cond_false, show wlt 1 0 = false by decide +kernel, cond_false, ob_mk (show dalenG tb0 sI.1 57 = some 12 from rfl), show wle 12 1 = false by decide +kernel, cond_false, ob_mk (show daldA nS sI.1 57 1 = some 59 from rfl), show Nat.beq 59 0 = false from rfl, cond_false, ob_mk (show dalenG tb0 sI.1 59 = some 37 from rfl)]
    rcases wlt_out h (by decide) h37 with e | ⟨e, -⟩
    · rw [e]; rfl
    · have e2 : wle 37 v = true := by
        rcases wl_c h 37 (by decide) with h1 | h1 | ⟨h0, h1⟩
        · exact absurd h1 h37
        · rw [(wl_n h1 h (k := 0) (by decide)).1] at e; cases e
        · exact (wl_e h0 h1).2
      rw [e, cond_false, e2]; rfl
theorem C11_0_1 {v : Nat} (h : v < 4294967296) (hx : ¬ v < 10) : f_L_spread tb0 21 0 1 v 82 sI = some (.inl 0, sI) := by
  unfold f_L_spread f_X9_spread
  rw [show f_X9_needFamily 0 sI = some (.inl (), sI) from rfl, obW_l, show f_X9_needStatistic 1 sI = some (.inl (), sI) from rfl, obW_l, ob_mk (show dgR nS c_X9 5 sI.1 21 = some 29 from rfl), ob_mk (show dtag nS c_X4 sI.1 29 = some () from rfl), cno_0_1 h hx, ob_s2, ob_mk (show dtag nS c_X9 sI.1 21 = some () from rfl), show dchk sI (some (Sum.inl 0, sI) : Option (dR Nat)) = some (.inl 0, sI) from rfl, obX_l, dast_I, ob_s2]
  rfl
theorem v11_0_1 {v : Nat} (h : v < 4294967296) (hx : ¬ v < 10) (d : Nat) : good (op_11 0 1 v d sI) = true := by
  obtain ⟨r, s, h1, h2, h3, h4, h5, h6, h7, h8⟩ := okV_spec okV_0_1
  have hv : ∀ x, x ≤ 9 → weq x v = false := fun x hx9 => weq_ne (by omega) h (by omega)
  have hR : f_X12_spread tb0 70 0 1 v sI = some (.inl 0, s) := by
    unfold f_X12_spread
    rw [ob_mk (show f_X12_isNoFamily 0 = some 0 from rfl), ob_mk (show dtag nS c_X12 sI.1 70 = some () from rfl), start_I, obW_l, show (!weq 0 0) = false from rfl, cond_false, ob_mk (show f_X12_isNoStatistic 1 = some 0 from rfl), ob_mk (show dtag nS c_X12 sI.1 70 = some () from rfl), refuse_I, obW_l, show weq 0 0 = true from rfl, cond_true, ob_mk (show dtag nS c_X12 sI.1 70 = some () from rfl), h1, obW_l, h2, ob_s2, show dF = 99994 + 5 + 1 from rfl, sp_no (by decide) hv h3 5 0 99994 rfl]
    unfold dchk
    rw [ob_s2]
    show (bif Nat.ble 63 s.2.1 && Nat.ble 2301 s.2.2 then _ else none) = _
    rw [h8]
    rfl
  unfold op_11
  rw [C11_0_1 h hx, obW_l, ob_mk (show dtag nS c_X12 sI.1 70 = some () from rfl), hR, obW_l, ob_mk h5, ob_mk h4, show weq 0 0 = true from rfl, cond_true, show (!true) = false from rfl, cond_false, ob_mk h6, show weq (xcmp 0 (xi 0)) 0 = true by decide +kernel, cond_true]
  exact good_1 h7
set_option maxRecDepth 100000 in
theorem okV_0_2 : okV 5 (f_X12_statistics tb0 70 0 2 sI) = true := by decide +kernel
set_option maxRecDepth 100000 in
theorem cnt_0_2 : ∀ v, v < 37 → 10 ≤ v → f_X4_countOf tb0 sI.1 29 0 2 v = some 0 := by decide +kernel
theorem cno_0_2 {v : Nat} (h : v < 4294967296) (hx : ¬ v < 10) : f_X4_countOf tb0 sI.1 29 0 2 v = some 0 := by
  by_cases h37 : v < 37
  · exact cnt_0_2 v h37 (by omega)
  · unfold f_X4_countOf
    rw [ob_mk (show dgR nS c_X4 5 sI.1 29 = some 57 from rfl), show wadd (wmul 0 4) 2 = 2 by decide +kernel]
    unfold f_X5_at_
    rw [show Nat.beq 57 0 = false from rfl, cond_false, show wlt 2 0 = false by decide +kernel, cond_false, ob_mk (show dalenG tb0 sI.1 57 = some 12 from rfl), show wle 12 2 = false by decide +kernel, cond_false, ob_mk (show daldA nS sI.1 57 2 = some 60 from rfl), show Nat.beq 60 0 = false from rfl, cond_false, ob_mk (show dalenG tb0 sI.1 60 = some 37 from rfl)]
    rcases wlt_out h (by decide) h37 with e | ⟨e, -⟩
    · rw [e]; rfl
    · have e2 : wle 37 v = true := by
        rcases wl_c h 37 (by decide) with h1 | h1 | ⟨h0, h1⟩
        · exact absurd h1 h37
        · rw [(wl_n h1 h (k := 0) (by decide)).1] at e; cases e
        · exact (wl_e h0 h1).2
      rw [e, cond_false, e2]; rfl
theorem C11_0_2 {v : Nat} (h : v < 4294967296) (hx : ¬ v < 10) : f_L_spread tb0 21 0 2 v 82 sI = some (.inl 0, sI) := by
  unfold f_L_spread f_X9_spread
  rw [show f_X9_needFamily 0 sI = some (.inl (), sI) from rfl, obW_l, show f_X9_needStatistic 2 sI = some (.inl (), sI) from rfl, obW_l, ob_mk (show dgR nS c_X9 5 sI.1 21 = some 29 from rfl), ob_mk (show dtag nS c_X4 sI.1 29 = some () from rfl), cno_0_2 h hx, ob_s2, ob_mk (show dtag nS c_X9 sI.1 21 = some () from rfl), show dchk sI (some (Sum.inl 0, sI) : Option (dR Nat)) = some (.inl 0, sI) from rfl, obX_l, dast_I, ob_s2]
  rfl
theorem v11_0_2 {v : Nat} (h : v < 4294967296) (hx : ¬ v < 10) (d : Nat) : good (op_11 0 2 v d sI) = true := by
  obtain ⟨r, s, h1, h2, h3, h4, h5, h6, h7, h8⟩ := okV_spec okV_0_2
  have hv : ∀ x, x ≤ 9 → weq x v = false := fun x hx9 => weq_ne (by omega) h (by omega)
  have hR : f_X12_spread tb0 70 0 2 v sI = some (.inl 0, s) := by
    unfold f_X12_spread
    rw [ob_mk (show f_X12_isNoFamily 0 = some 0 from rfl), ob_mk (show dtag nS c_X12 sI.1 70 = some () from rfl), start_I, obW_l, show (!weq 0 0) = false from rfl, cond_false, ob_mk (show f_X12_isNoStatistic 2 = some 0 from rfl), ob_mk (show dtag nS c_X12 sI.1 70 = some () from rfl), refuse_I, obW_l, show weq 0 0 = true from rfl, cond_true, ob_mk (show dtag nS c_X12 sI.1 70 = some () from rfl), h1, obW_l, h2, ob_s2, show dF = 99994 + 5 + 1 from rfl, sp_no (by decide) hv h3 5 0 99994 rfl]
    unfold dchk
    rw [ob_s2]
    show (bif Nat.ble 63 s.2.1 && Nat.ble 2301 s.2.2 then _ else none) = _
    rw [h8]
    rfl
  unfold op_11
  rw [C11_0_2 h hx, obW_l, ob_mk (show dtag nS c_X12 sI.1 70 = some () from rfl), hR, obW_l, ob_mk h5, ob_mk h4, show weq 0 0 = true from rfl, cond_true, show (!true) = false from rfl, cond_false, ob_mk h6, show weq (xcmp 0 (xi 0)) 0 = true by decide +kernel, cond_true]
  exact good_1 h7
set_option maxRecDepth 100000 in
theorem okV_0_3 : okV 5 (f_X12_statistics tb0 70 0 3 sI) = true := by decide +kernel
set_option maxRecDepth 100000 in
theorem cnt_0_3 : ∀ v, v < 37 → 10 ≤ v → f_X4_countOf tb0 sI.1 29 0 3 v = some 0 := by decide +kernel
theorem cno_0_3 {v : Nat} (h : v < 4294967296) (hx : ¬ v < 10) : f_X4_countOf tb0 sI.1 29 0 3 v = some 0 := by
  by_cases h37 : v < 37
  · exact cnt_0_3 v h37 (by omega)
  · unfold f_X4_countOf
    rw [ob_mk (show dgR nS c_X4 5 sI.1 29 = some 57 from rfl), show wadd (wmul 0 4) 3 = 3 by decide +kernel]
    unfold f_X5_at_
    rw [show Nat.beq 57 0 = false from rfl, cond_false, show wlt 3 0 = false by decide +kernel, cond_false, ob_mk (show dalenG tb0 sI.1 57 = some 12 from rfl), show wle 12 3 = false by decide +kernel, cond_false, ob_mk (show daldA nS sI.1 57 3 = some 61 from rfl), show Nat.beq 61 0 = false from rfl, cond_false, ob_mk (show dalenG tb0 sI.1 61 = some 37 from rfl)]
    rcases wlt_out h (by decide) h37 with e | ⟨e, -⟩
    · rw [e]; rfl
    · have e2 : wle 37 v = true := by
        rcases wl_c h 37 (by decide) with h1 | h1 | ⟨h0, h1⟩
        · exact absurd h1 h37
        · rw [(wl_n h1 h (k := 0) (by decide)).1] at e; cases e
        · exact (wl_e h0 h1).2
      rw [e, cond_false, e2]; rfl
theorem C11_0_3 {v : Nat} (h : v < 4294967296) (hx : ¬ v < 10) : f_L_spread tb0 21 0 3 v 82 sI = some (.inl 0, sI) := by
  unfold f_L_spread f_X9_spread
  rw [show f_X9_needFamily 0 sI = some (.inl (), sI) from rfl, obW_l, show f_X9_needStatistic 3 sI = some (.inl (), sI) from rfl, obW_l, ob_mk (show dgR nS c_X9 5 sI.1 21 = some 29 from rfl), ob_mk (show dtag nS c_X4 sI.1 29 = some () from rfl), cno_0_3 h hx, ob_s2, ob_mk (show dtag nS c_X9 sI.1 21 = some () from rfl), show dchk sI (some (Sum.inl 0, sI) : Option (dR Nat)) = some (.inl 0, sI) from rfl, obX_l, dast_I, ob_s2]
  rfl
theorem v11_0_3 {v : Nat} (h : v < 4294967296) (hx : ¬ v < 10) (d : Nat) : good (op_11 0 3 v d sI) = true := by
  obtain ⟨r, s, h1, h2, h3, h4, h5, h6, h7, h8⟩ := okV_spec okV_0_3
  have hv : ∀ x, x ≤ 9 → weq x v = false := fun x hx9 => weq_ne (by omega) h (by omega)
  have hR : f_X12_spread tb0 70 0 3 v sI = some (.inl 0, s) := by
    unfold f_X12_spread
    rw [ob_mk (show f_X12_isNoFamily 0 = some 0 from rfl), ob_mk (show dtag nS c_X12 sI.1 70 = some () from rfl), start_I, obW_l, show (!weq 0 0) = false from rfl, cond_false, ob_mk (show f_X12_isNoStatistic 3 = some 0 from rfl), ob_mk (show dtag nS c_X12 sI.1 70 = some () from rfl), refuse_I, obW_l, show weq 0 0 = true from rfl, cond_true, ob_mk (show dtag nS c_X12 sI.1 70 = some () from rfl), h1, obW_l, h2, ob_s2, show dF = 99994 + 5 + 1 from rfl, sp_no (by decide) hv h3 5 0 99994 rfl]
    unfold dchk
    rw [ob_s2]
    show (bif Nat.ble 63 s.2.1 && Nat.ble 2301 s.2.2 then _ else none) = _
    rw [h8]
    rfl
  unfold op_11
  rw [C11_0_3 h hx, obW_l, ob_mk (show dtag nS c_X12 sI.1 70 = some () from rfl), hR, obW_l, ob_mk h5, ob_mk h4, show weq 0 0 = true from rfl, cond_true, show (!true) = false from rfl, cond_false, ob_mk h6, show weq (xcmp 0 (xi 0)) 0 = true by decide +kernel, cond_true]
  exact good_1 h7
set_option maxRecDepth 100000 in
theorem okV_1_0 : okV 5 (f_X12_statistics tb0 70 1 0 sI) = true := by decide +kernel
set_option maxRecDepth 100000 in
theorem cnt_1_0 : ∀ v, v < 37 → 10 ≤ v → f_X4_countOf tb0 sI.1 29 1 0 v = some 0 := by decide +kernel
theorem cno_1_0 {v : Nat} (h : v < 4294967296) (hx : ¬ v < 10) : f_X4_countOf tb0 sI.1 29 1 0 v = some 0 := by
  by_cases h37 : v < 37
  · exact cnt_1_0 v h37 (by omega)
  · unfold f_X4_countOf
    rw [ob_mk (show dgR nS c_X4 5 sI.1 29 = some 57 from rfl), show wadd (wmul 1 4) 0 = 4 by decide +kernel]
    unfold f_X5_at_
    rw [show Nat.beq 57 0 = false from rfl, cond_false, show wlt 4 0 = false by decide +kernel, cond_false, ob_mk (show dalenG tb0 sI.1 57 = some 12 from rfl), show wle 12 4 = false by decide +kernel, cond_false, ob_mk (show daldA nS sI.1 57 4 = some 62 from rfl), show Nat.beq 62 0 = false from rfl, cond_false, ob_mk (show dalenG tb0 sI.1 62 = some 37 from rfl)]
    rcases wlt_out h (by decide) h37 with e | ⟨e, -⟩
    · rw [e]; rfl
    · have e2 : wle 37 v = true := by
        rcases wl_c h 37 (by decide) with h1 | h1 | ⟨h0, h1⟩
        · exact absurd h1 h37
        · rw [(wl_n h1 h (k := 0) (by decide)).1] at e; cases e
        · exact (wl_e h0 h1).2
      rw [e, cond_false, e2]; rfl
theorem C11_1_0 {v : Nat} (h : v < 4294967296) (hx : ¬ v < 10) : f_L_spread tb0 21 1 0 v 82 sI = some (.inl 0, sI) := by
  unfold f_L_spread f_X9_spread
  rw [show f_X9_needFamily 1 sI = some (.inl (), sI) from rfl, obW_l, show f_X9_needStatistic 0 sI = some (.inl (), sI) from rfl, obW_l, ob_mk (show dgR nS c_X9 5 sI.1 21 = some 29 from rfl), ob_mk (show dtag nS c_X4 sI.1 29 = some () from rfl), cno_1_0 h hx, ob_s2, ob_mk (show dtag nS c_X9 sI.1 21 = some () from rfl), show dchk sI (some (Sum.inl 0, sI) : Option (dR Nat)) = some (.inl 0, sI) from rfl, obX_l, dast_I, ob_s2]
  rfl
theorem v11_1_0 {v : Nat} (h : v < 4294967296) (hx : ¬ v < 10) (d : Nat) : good (op_11 1 0 v d sI) = true := by
  obtain ⟨r, s, h1, h2, h3, h4, h5, h6, h7, h8⟩ := okV_spec okV_1_0
  have hv : ∀ x, x ≤ 9 → weq x v = false := fun x hx9 => weq_ne (by omega) h (by omega)
  have hR : f_X12_spread tb0 70 1 0 v sI = some (.inl 0, s) := by
    unfold f_X12_spread
    rw [ob_mk (show f_X12_isNoFamily 1 = some 0 from rfl), ob_mk (show dtag nS c_X12 sI.1 70 = some () from rfl), start_I, obW_l, show (!weq 0 0) = false from rfl, cond_false, ob_mk (show f_X12_isNoStatistic 0 = some 0 from rfl), ob_mk (show dtag nS c_X12 sI.1 70 = some () from rfl), refuse_I, obW_l, show weq 0 0 = true from rfl, cond_true, ob_mk (show dtag nS c_X12 sI.1 70 = some () from rfl), h1, obW_l, h2, ob_s2, show dF = 99994 + 5 + 1 from rfl, sp_no (by decide) hv h3 5 0 99994 rfl]
    unfold dchk
    rw [ob_s2]
    show (bif Nat.ble 63 s.2.1 && Nat.ble 2301 s.2.2 then _ else none) = _
    rw [h8]
    rfl
  unfold op_11
  rw [C11_1_0 h hx, obW_l, ob_mk (show dtag nS c_X12 sI.1 70 = some () from rfl), hR, obW_l, ob_mk h5, ob_mk h4, show weq 0 0 = true from rfl, cond_true, show (!true) = false from rfl, cond_false, ob_mk h6, show weq (xcmp 0 (xi 0)) 0 = true by decide +kernel, cond_true]
  exact good_1 h7
set_option maxRecDepth 100000 in
theorem okV_1_1 : okV 5 (f_X12_statistics tb0 70 1 1 sI) = true := by decide +kernel
set_option maxRecDepth 100000 in
theorem cnt_1_1 : ∀ v, v < 37 → 10 ≤ v → f_X4_countOf tb0 sI.1 29 1 1 v = some 0 := by decide +kernel
theorem cno_1_1 {v : Nat} (h : v < 4294967296) (hx : ¬ v < 10) : f_X4_countOf tb0 sI.1 29 1 1 v = some 0 := by
  by_cases h37 : v < 37
  · exact cnt_1_1 v h37 (by omega)
  · unfold f_X4_countOf
    rw [ob_mk (show dgR nS c_X4 5 sI.1 29 = some 57 from rfl), show wadd (wmul 1 4) 1 = 5 by decide +kernel]
    unfold f_X5_at_
    rw [show Nat.beq 57 0 = false from rfl, cond_false, show wlt 5 0 = false by decide +kernel, cond_false, ob_mk (show dalenG tb0 sI.1 57 = some 12 from rfl), show wle 12 5 = false by decide +kernel, cond_false, ob_mk (show daldA nS sI.1 57 5 = some 63 from rfl), show Nat.beq 63 0 = false from rfl, cond_false, ob_mk (show dalenG tb0 sI.1 63 = some 37 from rfl)]
    rcases wlt_out h (by decide) h37 with e | ⟨e, -⟩
    · rw [e]; rfl
    · have e2 : wle 37 v = true := by
        rcases wl_c h 37 (by decide) with h1 | h1 | ⟨h0, h1⟩
        · exact absurd h1 h37
        · rw [(wl_n h1 h (k := 0) (by decide)).1] at e; cases e
        · exact (wl_e h0 h1).2
      rw [e, cond_false, e2]; rfl
theorem C11_1_1 {v : Nat} (h : v < 4294967296) (hx : ¬ v < 10) : f_L_spread tb0 21 1 1 v 82 sI = some (.inl 0, sI) := by
  unfold f_L_spread f_X9_spread
  rw [show f_X9_needFamily 1 sI = some (.inl (), sI) from rfl, obW_l, show f_X9_needStatistic 1 sI = some (.inl (), sI) from rfl, obW_l, ob_mk (show dgR nS c_X9 5 sI.1 21 = some 29 from rfl), ob_mk (show dtag nS c_X4 sI.1 29 = some () from rfl), cno_1_1 h hx, ob_s2, ob_mk (show dtag nS c_X9 sI.1 21 = some () from rfl), show dchk sI (some (Sum.inl 0, sI) : Option (dR Nat)) = some (.inl 0, sI) from rfl, obX_l, dast_I, ob_s2]
  rfl
theorem v11_1_1 {v : Nat} (h : v < 4294967296) (hx : ¬ v < 10) (d : Nat) : good (op_11 1 1 v d sI) = true := by
  obtain ⟨r, s, h1, h2, h3, h4, h5, h6, h7, h8⟩ := okV_spec okV_1_1
  have hv : ∀ x, x ≤ 9 → weq x v = false := fun x hx9 => weq_ne (by omega) h (by omega)
  have hR : f_X12_spread tb0 70 1 1 v sI = some (.inl 0, s) := by
    unfold f_X12_spread
    rw [ob_mk (show f_X12_isNoFamily 1 = some 0 from rfl), ob_mk (show dtag nS c_X12 sI.1 70 = some () from rfl), start_I, obW_l, show (!weq 0 0) = false from rfl, cond_false, ob_mk (show f_X12_isNoStatistic 1 = some 0 from rfl), ob_mk (show dtag nS c_X12 sI.1 70 = some () from rfl), refuse_I, obW_l, show weq 0 0 = true from rfl, cond_true, ob_mk (show dtag nS c_X12 sI.1 70 = some () from rfl), h1, obW_l, h2, ob_s2, show dF = 99994 + 5 + 1 from rfl, sp_no (by decide) hv h3 5 0 99994 rfl]
    unfold dchk
    rw [ob_s2]
    show (bif Nat.ble 63 s.2.1 && Nat.ble 2301 s.2.2 then _ else none) = _
    rw [h8]
    rfl
  unfold op_11
  rw [C11_1_1 h hx, obW_l, ob_mk (show dtag nS c_X12 sI.1 70 = some () from rfl), hR, obW_l, ob_mk h5, ob_mk h4, show weq 0 0 = true from rfl, cond_true, show (!true) = false from rfl, cond_false, ob_mk h6, show weq (xcmp 0 (xi 0)) 0 = true by decide +kernel, cond_true]
  exact good_1 h7
set_option maxRecDepth 100000 in
theorem okV_1_2 : okV 5 (f_X12_statistics tb0 70 1 2 sI) = true := by decide +kernel
set_option maxRecDepth 100000 in
theorem cnt_1_2 : ∀ v, v < 37 → 10 ≤ v → f_X4_countOf tb0 sI.1 29 1 2 v = some 0 := by decide +kernel
theorem cno_1_2 {v : Nat} (h : v < 4294967296) (hx : ¬ v < 10) : f_X4_countOf tb0 sI.1 29 1 2 v = some 0 := by
  by_cases h37 : v < 37
  · exact cnt_1_2 v h37 (by omega)
  · unfold f_X4_countOf
    rw [ob_mk (show dgR nS c_X4 5 sI.1 29 = some 57 from rfl), show wadd (wmul 1 4) 2 = 6 by decide +kernel]
    unfold f_X5_at_
    rw [show Nat.beq 57 0 = false from rfl, cond_false, show wlt 6 0 = false by decide +kernel, cond_false, ob_mk (show dalenG tb0 sI.1 57 = some 12 from rfl), show wle 12 6 = false by decide +kernel, cond_false, ob_mk (show daldA nS sI.1 57 6 = some 64 from rfl), show Nat.beq 64 0 = false from rfl, cond_false, ob_mk (show dalenG tb0 sI.1 64 = some 37 from rfl)]
    rcases wlt_out h (by decide) h37 with e | ⟨e, -⟩
    · rw [e]; rfl
    · have e2 : wle 37 v = true := by
        rcases wl_c h 37 (by decide) with h1 | h1 | ⟨h0, h1⟩
        · exact absurd h1 h37
        · rw [(wl_n h1 h (k := 0) (by decide)).1] at e; cases e
        · exact (wl_e h0 h1).2
      rw [e, cond_false, e2]; rfl
theorem C11_1_2 {v : Nat} (h : v < 4294967296) (hx : ¬ v < 10) : f_L_spread tb0 21 1 2 v 82 sI = some (.inl 0, sI) := by
  unfold f_L_spread f_X9_spread
  rw [show f_X9_needFamily 1 sI = some (.inl (), sI) from rfl, obW_l, show f_X9_needStatistic 2 sI = some (.inl (), sI) from rfl, obW_l, ob_mk (show dgR nS c_X9 5 sI.1 21 = some 29 from rfl), ob_mk (show dtag nS c_X4 sI.1 29 = some () from rfl), cno_1_2 h hx, ob_s2, ob_mk (show dtag nS c_X9 sI.1 21 = some () from rfl), show dchk sI (some (Sum.inl 0, sI) : Option (dR Nat)) = some (.inl 0, sI) from rfl, obX_l, dast_I, ob_s2]
  rfl
theorem v11_1_2 {v : Nat} (h : v < 4294967296) (hx : ¬ v < 10) (d : Nat) : good (op_11 1 2 v d sI) = true := by
  obtain ⟨r, s, h1, h2, h3, h4, h5, h6, h7, h8⟩ := okV_spec okV_1_2
  have hv : ∀ x, x ≤ 9 → weq x v = false := fun x hx9 => weq_ne (by omega) h (by omega)
  have hR : f_X12_spread tb0 70 1 2 v sI = some (.inl 0, s) := by
    unfold f_X12_spread
    rw [ob_mk (show f_X12_isNoFamily 1 = some 0 from rfl), ob_mk (show dtag nS c_X12 sI.1 70 = some () from rfl), start_I, obW_l, show (!weq 0 0) = false from rfl, cond_false, ob_mk (show f_X12_isNoStatistic 2 = some 0 from rfl), ob_mk (show dtag nS c_X12 sI.1 70 = some () from rfl), refuse_I, obW_l, show weq 0 0 = true from rfl, cond_true, ob_mk (show dtag nS c_X12 sI.1 70 = some () from rfl), h1, obW_l, h2, ob_s2, show dF = 99994 + 5 + 1 from rfl, sp_no (by decide) hv h3 5 0 99994 rfl]
    unfold dchk
    rw [ob_s2]
    show (bif Nat.ble 63 s.2.1 && Nat.ble 2301 s.2.2 then _ else none) = _
    rw [h8]
    rfl
  unfold op_11
  rw [C11_1_2 h hx, obW_l, ob_mk (show dtag nS c_X12 sI.1 70 = some () from rfl), hR, obW_l, ob_mk h5, ob_mk h4, show weq 0 0 = true from rfl, cond_true, show (!true) = false from rfl, cond_false, ob_mk h6, show weq (xcmp 0 (xi 0)) 0 = true by decide +kernel, cond_true]
  exact good_1 h7
set_option maxRecDepth 100000 in
theorem okV_1_3 : okV 5 (f_X12_statistics tb0 70 1 3 sI) = true := by decide +kernel
set_option maxRecDepth 100000 in
theorem cnt_1_3 : ∀ v, v < 37 → 10 ≤ v → f_X4_countOf tb0 sI.1 29 1 3 v = some 0 := by decide +kernel
theorem cno_1_3 {v : Nat} (h : v < 4294967296) (hx : ¬ v < 10) : f_X4_countOf tb0 sI.1 29 1 3 v = some 0 := by
  by_cases h37 : v < 37
  · exact cnt_1_3 v h37 (by omega)
  · unfold f_X4_countOf
    rw [ob_mk (show dgR nS c_X4 5 sI.1 29 = some 57 from rfl), show wadd (wmul 1 4) 3 = 7 by decide +kernel]
    unfold f_X5_at_
    rw [show Nat.beq 57 0 = false from rfl, cond_false, show wlt 7 0 = false by decide +kernel, cond_false, ob_mk (show dalenG tb0 sI.1 57 = some 12 from rfl), show wle 12 7 = false by decide +kernel, cond_false, ob_mk (show daldA nS sI.1 57 7 = some 65 from rfl), show Nat.beq 65 0 = false from rfl, cond_false, ob_mk (show dalenG tb0 sI.1 65 = some 37 from rfl)]
    rcases wlt_out h (by decide) h37 with e | ⟨e, -⟩
    · rw [e]; rfl
    · have e2 : wle 37 v = true := by
        rcases wl_c h 37 (by decide) with h1 | h1 | ⟨h0, h1⟩
        · exact absurd h1 h37
        · rw [(wl_n h1 h (k := 0) (by decide)).1] at e; cases e
        · exact (wl_e h0 h1).2
      rw [e, cond_false, e2]; rfl
theorem C11_1_3 {v : Nat} (h : v < 4294967296) (hx : ¬ v < 10) : f_L_spread tb0 21 1 3 v 82 sI = some (.inl 0, sI) := by
  unfold f_L_spread f_X9_spread
  rw [show f_X9_needFamily 1 sI = some (.inl (), sI) from rfl, obW_l, show f_X9_needStatistic 3 sI = some (.inl (), sI) from rfl, obW_l, ob_mk (show dgR nS c_X9 5 sI.1 21 = some 29 from rfl), ob_mk (show dtag nS c_X4 sI.1 29 = some () from rfl), cno_1_3 h hx, ob_s2, ob_mk (show dtag nS c_X9 sI.1 21 = some () from rfl), show dchk sI (some (Sum.inl 0, sI) : Option (dR Nat)) = some (.inl 0, sI) from rfl, obX_l, dast_I, ob_s2]
  rfl
theorem v11_1_3 {v : Nat} (h : v < 4294967296) (hx : ¬ v < 10) (d : Nat) : good (op_11 1 3 v d sI) = true := by
  obtain ⟨r, s, h1, h2, h3, h4, h5, h6, h7, h8⟩ := okV_spec okV_1_3
  have hv : ∀ x, x ≤ 9 → weq x v = false := fun x hx9 => weq_ne (by omega) h (by omega)
  have hR : f_X12_spread tb0 70 1 3 v sI = some (.inl 0, s) := by
    unfold f_X12_spread
    rw [ob_mk (show f_X12_isNoFamily 1 = some 0 from rfl), ob_mk (show dtag nS c_X12 sI.1 70 = some () from rfl), start_I, obW_l, show (!weq 0 0) = false from rfl, cond_false, ob_mk (show f_X12_isNoStatistic 3 = some 0 from rfl), ob_mk (show dtag nS c_X12 sI.1 70 = some () from rfl), refuse_I, obW_l, show weq 0 0 = true from rfl, cond_true, ob_mk (show dtag nS c_X12 sI.1 70 = some () from rfl), h1, obW_l, h2, ob_s2, show dF = 99994 + 5 + 1 from rfl, sp_no (by decide) hv h3 5 0 99994 rfl]
    unfold dchk
    rw [ob_s2]
    show (bif Nat.ble 63 s.2.1 && Nat.ble 2301 s.2.2 then _ else none) = _
    rw [h8]
    rfl
  unfold op_11
  rw [C11_1_3 h hx, obW_l, ob_mk (show dtag nS c_X12 sI.1 70 = some () from rfl), hR, obW_l, ob_mk h5, ob_mk h4, show weq 0 0 = true from rfl, cond_true, show (!true) = false from rfl, cond_false, ob_mk h6, show weq (xcmp 0 (xi 0)) 0 = true by decide +kernel, cond_true]
  exact good_1 h7
set_option maxRecDepth 100000 in
theorem okV_2_0 : okV 6 (f_X12_statistics tb0 70 2 0 sI) = true := by decide +kernel
set_option maxRecDepth 100000 in
theorem cnt_2_0 : ∀ v, v < 37 → 10 ≤ v → f_X4_countOf tb0 sI.1 29 2 0 v = some 0 := by decide +kernel
theorem cno_2_0 {v : Nat} (h : v < 4294967296) (hx : ¬ v < 10) : f_X4_countOf tb0 sI.1 29 2 0 v = some 0 := by
  by_cases h37 : v < 37
  · exact cnt_2_0 v h37 (by omega)
  · unfold f_X4_countOf
    rw [ob_mk (show dgR nS c_X4 5 sI.1 29 = some 57 from rfl), show wadd (wmul 2 4) 0 = 8 by decide +kernel]
    unfold f_X5_at_
    rw [show Nat.beq 57 0 = false from rfl, cond_false, show wlt 8 0 = false by decide +kernel, cond_false, ob_mk (show dalenG tb0 sI.1 57 = some 12 from rfl), show wle 12 8 = false by decide +kernel, cond_false, ob_mk (show daldA nS sI.1 57 8 = some 66 from rfl), show Nat.beq 66 0 = false from rfl, cond_false, ob_mk (show dalenG tb0 sI.1 66 = some 37 from rfl)]
    rcases wlt_out h (by decide) h37 with e | ⟨e, -⟩
    · rw [e]; rfl
    · have e2 : wle 37 v = true := by
        rcases wl_c h 37 (by decide) with h1 | h1 | ⟨h0, h1⟩
        · exact absurd h1 h37
        · rw [(wl_n h1 h (k := 0) (by decide)).1] at e; cases e
        · exact (wl_e h0 h1).2
      rw [e, cond_false, e2]; rfl
theorem C11_2_0 {v : Nat} (h : v < 4294967296) (hx : ¬ v < 10) : f_L_spread tb0 21 2 0 v 82 sI = some (.inl 0, sI) := by
  unfold f_L_spread f_X9_spread
  rw [show f_X9_needFamily 2 sI = some (.inl (), sI) from rfl, obW_l, show f_X9_needStatistic 0 sI = some (.inl (), sI) from rfl, obW_l, ob_mk (show dgR nS c_X9 5 sI.1 21 = some 29 from rfl), ob_mk (show dtag nS c_X4 sI.1 29 = some () from rfl), cno_2_0 h hx, ob_s2, ob_mk (show dtag nS c_X9 sI.1 21 = some () from rfl), show dchk sI (some (Sum.inl 0, sI) : Option (dR Nat)) = some (.inl 0, sI) from rfl, obX_l, dast_I, ob_s2]
  rfl
theorem v11_2_0 {v : Nat} (h : v < 4294967296) (hx : ¬ v < 10) (d : Nat) : good (op_11 2 0 v d sI) = true := by
  obtain ⟨r, s, h1, h2, h3, h4, h5, h6, h7, h8⟩ := okV_spec okV_2_0
  have hv : ∀ x, x ≤ 9 → weq x v = false := fun x hx9 => weq_ne (by omega) h (by omega)
  have hR : f_X12_spread tb0 70 2 0 v sI = some (.inl 0, s) := by
    unfold f_X12_spread
    rw [ob_mk (show f_X12_isNoFamily 2 = some 0 from rfl), ob_mk (show dtag nS c_X12 sI.1 70 = some () from rfl), start_I, obW_l, show (!weq 0 0) = false from rfl, cond_false, ob_mk (show f_X12_isNoStatistic 0 = some 0 from rfl), ob_mk (show dtag nS c_X12 sI.1 70 = some () from rfl), refuse_I, obW_l, show weq 0 0 = true from rfl, cond_true, ob_mk (show dtag nS c_X12 sI.1 70 = some () from rfl), h1, obW_l, h2, ob_s2, show dF = 99993 + 6 + 1 from rfl, sp_no (by decide) hv h3 6 0 99993 rfl]
    unfold dchk
    rw [ob_s2]
    show (bif Nat.ble 63 s.2.1 && Nat.ble 2301 s.2.2 then _ else none) = _
    rw [h8]
    rfl
  unfold op_11
  rw [C11_2_0 h hx, obW_l, ob_mk (show dtag nS c_X12 sI.1 70 = some () from rfl), hR, obW_l, ob_mk h5, ob_mk h4, show weq 0 0 = true from rfl, cond_true, show (!true) = false from rfl, cond_false, ob_mk h6, show weq (xcmp 0 (xi 0)) 0 = true by decide +kernel, cond_true]
  exact good_1 h7
set_option maxRecDepth 100000 in
theorem okV_2_1 : okV 6 (f_X12_statistics tb0 70 2 1 sI) = true := by decide +kernel
set_option maxRecDepth 100000 in
theorem cnt_2_1 : ∀ v, v < 37 → 10 ≤ v → f_X4_countOf tb0 sI.1 29 2 1 v = some 0 := by decide +kernel
theorem cno_2_1 {v : Nat} (h : v < 4294967296) (hx : ¬ v < 10) : f_X4_countOf tb0 sI.1 29 2 1 v = some 0 := by
  by_cases h37 : v < 37
  · exact cnt_2_1 v h37 (by omega)
  · unfold f_X4_countOf
    rw [ob_mk (show dgR nS c_X4 5 sI.1 29 = some 57 from rfl), show wadd (wmul 2 4) 1 = 9 by decide +kernel]
    unfold f_X5_at_
    rw [show Nat.beq 57 0 = false from rfl, cond_false, show wlt 9 0 = false by decide +kernel, cond_false, ob_mk (show dalenG tb0 sI.1 57 = some 12 from rfl), show wle 12 9 = false by decide +kernel, cond_false, ob_mk (show daldA nS sI.1 57 9 = some 67 from rfl), show Nat.beq 67 0 = false from rfl, cond_false, ob_mk (show dalenG tb0 sI.1 67 = some 37 from rfl)]
    rcases wlt_out h (by decide) h37 with e | ⟨e, -⟩
    · rw [e]; rfl
    · have e2 : wle 37 v = true := by
        rcases wl_c h 37 (by decide) with h1 | h1 | ⟨h0, h1⟩
        · exact absurd h1 h37
        · rw [(wl_n h1 h (k := 0) (by decide)).1] at e; cases e
        · exact (wl_e h0 h1).2
      rw [e, cond_false, e2]; rfl
theorem C11_2_1 {v : Nat} (h : v < 4294967296) (hx : ¬ v < 10) : f_L_spread tb0 21 2 1 v 82 sI = some (.inl 0, sI) := by
  unfold f_L_spread f_X9_spread
  rw [show f_X9_needFamily 2 sI = some (.inl (), sI) from rfl, obW_l, show f_X9_needStatistic 1 sI = some (.inl (), sI) from rfl, obW_l, ob_mk (show dgR nS c_X9 5 sI.1 21 = some 29 from rfl), ob_mk (show dtag nS c_X4 sI.1 29 = some () from rfl), cno_2_1 h hx, ob_s2, ob_mk (show dtag nS c_X9 sI.1 21 = some () from rfl), show dchk sI (some (Sum.inl 0, sI) : Option (dR Nat)) = some (.inl 0, sI) from rfl, obX_l, dast_I, ob_s2]
  rfl
theorem v11_2_1 {v : Nat} (h : v < 4294967296) (hx : ¬ v < 10) (d : Nat) : good (op_11 2 1 v d sI) = true := by
  obtain ⟨r, s, h1, h2, h3, h4, h5, h6, h7, h8⟩ := okV_spec okV_2_1
  have hv : ∀ x, x ≤ 9 → weq x v = false := fun x hx9 => weq_ne (by omega) h (by omega)
  have hR : f_X12_spread tb0 70 2 1 v sI = some (.inl 0, s) := by
    unfold f_X12_spread
    rw [ob_mk (show f_X12_isNoFamily 2 = some 0 from rfl), ob_mk (show dtag nS c_X12 sI.1 70 = some () from rfl), start_I, obW_l, show (!weq 0 0) = false from rfl, cond_false, ob_mk (show f_X12_isNoStatistic 1 = some 0 from rfl), ob_mk (show dtag nS c_X12 sI.1 70 = some () from rfl), refuse_I, obW_l, show weq 0 0 = true from rfl, cond_true, ob_mk (show dtag nS c_X12 sI.1 70 = some () from rfl), h1, obW_l, h2, ob_s2, show dF = 99993 + 6 + 1 from rfl, sp_no (by decide) hv h3 6 0 99993 rfl]
    unfold dchk
    rw [ob_s2]
    show (bif Nat.ble 63 s.2.1 && Nat.ble 2301 s.2.2 then _ else none) = _
    rw [h8]
    rfl
  unfold op_11
  rw [C11_2_1 h hx, obW_l, ob_mk (show dtag nS c_X12 sI.1 70 = some () from rfl), hR, obW_l, ob_mk h5, ob_mk h4, show weq 0 0 = true from rfl, cond_true, show (!true) = false from rfl, cond_false, ob_mk h6, show weq (xcmp 0 (xi 0)) 0 = true by decide +kernel, cond_true]
  exact good_1 h7
set_option maxRecDepth 100000 in
theorem okV_2_2 : okV 6 (f_X12_statistics tb0 70 2 2 sI) = true := by decide +kernel
set_option maxRecDepth 100000 in
theorem cnt_2_2 : ∀ v, v < 37 → 10 ≤ v → f_X4_countOf tb0 sI.1 29 2 2 v = some 0 := by decide +kernel
theorem cno_2_2 {v : Nat} (h : v < 4294967296) (hx : ¬ v < 10) : f_X4_countOf tb0 sI.1 29 2 2 v = some 0 := by
  by_cases h37 : v < 37
  · exact cnt_2_2 v h37 (by omega)
  · unfold f_X4_countOf
    rw [ob_mk (show dgR nS c_X4 5 sI.1 29 = some 57 from rfl), show wadd (wmul 2 4) 2 = 10 by decide +kernel]
    unfold f_X5_at_
    rw [show Nat.beq 57 0 = false from rfl, cond_false, show wlt 10 0 = false by decide +kernel, cond_false, ob_mk (show dalenG tb0 sI.1 57 = some 12 from rfl), show wle 12 10 = false by decide +kernel, cond_false, ob_mk (show daldA nS sI.1 57 10 = some 68 from rfl), show Nat.beq 68 0 = false from rfl, cond_false, ob_mk (show dalenG tb0 sI.1 68 = some 37 from rfl)]
    rcases wlt_out h (by decide) h37 with e | ⟨e, -⟩
    · rw [e]; rfl
    · have e2 : wle 37 v = true := by
        rcases wl_c h 37 (by decide) with h1 | h1 | ⟨h0, h1⟩
        · exact absurd h1 h37
        · rw [(wl_n h1 h (k := 0) (by decide)).1] at e; cases e
        · exact (wl_e h0 h1).2
      rw [e, cond_false, e2]; rfl
theorem C11_2_2 {v : Nat} (h : v < 4294967296) (hx : ¬ v < 10) : f_L_spread tb0 21 2 2 v 82 sI = some (.inl 0, sI) := by
  unfold f_L_spread f_X9_spread
  rw [show f_X9_needFamily 2 sI = some (.inl (), sI) from rfl, obW_l, show f_X9_needStatistic 2 sI = some (.inl (), sI) from rfl, obW_l, ob_mk (show dgR nS c_X9 5 sI.1 21 = some 29 from rfl), ob_mk (show dtag nS c_X4 sI.1 29 = some () from rfl), cno_2_2 h hx, ob_s2, ob_mk (show dtag nS c_X9 sI.1 21 = some () from rfl), show dchk sI (some (Sum.inl 0, sI) : Option (dR Nat)) = some (.inl 0, sI) from rfl, obX_l, dast_I, ob_s2]
  rfl
theorem v11_2_2 {v : Nat} (h : v < 4294967296) (hx : ¬ v < 10) (d : Nat) : good (op_11 2 2 v d sI) = true := by
  obtain ⟨r, s, h1, h2, h3, h4, h5, h6, h7, h8⟩ := okV_spec okV_2_2
  have hv : ∀ x, x ≤ 9 → weq x v = false := fun x hx9 => weq_ne (by omega) h (by omega)
  have hR : f_X12_spread tb0 70 2 2 v sI = some (.inl 0, s) := by
    unfold f_X12_spread
    rw [ob_mk (show f_X12_isNoFamily 2 = some 0 from rfl), ob_mk (show dtag nS c_X12 sI.1 70 = some () from rfl), start_I, obW_l, show (!weq 0 0) = false from rfl, cond_false, ob_mk (show f_X12_isNoStatistic 2 = some 0 from rfl), ob_mk (show dtag nS c_X12 sI.1 70 = some () from rfl), refuse_I, obW_l, show weq 0 0 = true from rfl, cond_true, ob_mk (show dtag nS c_X12 sI.1 70 = some () from rfl), h1, obW_l, h2, ob_s2, show dF = 99993 + 6 + 1 from rfl, sp_no (by decide) hv h3 6 0 99993 rfl]
    unfold dchk
    rw [ob_s2]
    show (bif Nat.ble 63 s.2.1 && Nat.ble 2301 s.2.2 then _ else none) = _
    rw [h8]
    rfl
  unfold op_11
  rw [C11_2_2 h hx, obW_l, ob_mk (show dtag nS c_X12 sI.1 70 = some () from rfl), hR, obW_l, ob_mk h5, ob_mk h4, show weq 0 0 = true from rfl, cond_true, show (!true) = false from rfl, cond_false, ob_mk h6, show weq (xcmp 0 (xi 0)) 0 = true by decide +kernel, cond_true]
  exact good_1 h7
set_option maxRecDepth 100000 in
theorem okV_2_3 : okV 6 (f_X12_statistics tb0 70 2 3 sI) = true := by decide +kernel
set_option maxRecDepth 100000 in
theorem cnt_2_3 : ∀ v, v < 37 → 10 ≤ v → f_X4_countOf tb0 sI.1 29 2 3 v = some 0 := by decide +kernel
theorem cno_2_3 {v : Nat} (h : v < 4294967296) (hx : ¬ v < 10) : f_X4_countOf tb0 sI.1 29 2 3 v = some 0 := by
  by_cases h37 : v < 37
  · exact cnt_2_3 v h37 (by omega)
  · unfold f_X4_countOf
    rw [ob_mk (show dgR nS c_X4 5 sI.1 29 = some 57 from rfl), show wadd (wmul 2 4) 3 = 11 by decide +kernel]
    unfold f_X5_at_
    rw [show Nat.beq 57 0 = false from rfl, cond_false, show wlt 11 0 = false by decide +kernel, cond_false, ob_mk (show dalenG tb0 sI.1 57 = some 12 from rfl), show wle 12 11 = false by decide +kernel, cond_false, ob_mk (show daldA nS sI.1 57 11 = some 69 from rfl), show Nat.beq 69 0 = false from rfl, cond_false, ob_mk (show dalenG tb0 sI.1 69 = some 37 from rfl)]
    rcases wlt_out h (by decide) h37 with e | ⟨e, -⟩
    · rw [e]; rfl
    · have e2 : wle 37 v = true := by
        rcases wl_c h 37 (by decide) with h1 | h1 | ⟨h0, h1⟩
        · exact absurd h1 h37
        · rw [(wl_n h1 h (k := 0) (by decide)).1] at e; cases e
        · exact (wl_e h0 h1).2
      rw [e, cond_false, e2]; rfl
theorem C11_2_3 {v : Nat} (h : v < 4294967296) (hx : ¬ v < 10) : f_L_spread tb0 21 2 3 v 82 sI = some (.inl 0, sI) := by
  unfold f_L_spread f_X9_spread
  rw [show f_X9_needFamily 2 sI = some (.inl (), sI) from rfl, obW_l, show f_X9_needStatistic 3 sI = some (.inl (), sI) from rfl, obW_l, ob_mk (show dgR nS c_X9 5 sI.1 21 = some 29 from rfl), ob_mk (show dtag nS c_X4 sI.1 29 = some () from rfl), cno_2_3 h hx, ob_s2, ob_mk (show dtag nS c_X9 sI.1 21 = some () from rfl), show dchk sI (some (Sum.inl 0, sI) : Option (dR Nat)) = some (.inl 0, sI) from rfl, obX_l, dast_I, ob_s2]
  rfl
theorem v11_2_3 {v : Nat} (h : v < 4294967296) (hx : ¬ v < 10) (d : Nat) : good (op_11 2 3 v d sI) = true := by
  obtain ⟨r, s, h1, h2, h3, h4, h5, h6, h7, h8⟩ := okV_spec okV_2_3
  have hv : ∀ x, x ≤ 9 → weq x v = false := fun x hx9 => weq_ne (by omega) h (by omega)
  have hR : f_X12_spread tb0 70 2 3 v sI = some (.inl 0, s) := by
    unfold f_X12_spread
    rw [ob_mk (show f_X12_isNoFamily 2 = some 0 from rfl), ob_mk (show dtag nS c_X12 sI.1 70 = some () from rfl), start_I, obW_l, show (!weq 0 0) = false from rfl, cond_false, ob_mk (show f_X12_isNoStatistic 3 = some 0 from rfl), ob_mk (show dtag nS c_X12 sI.1 70 = some () from rfl), refuse_I, obW_l, show weq 0 0 = true from rfl, cond_true, ob_mk (show dtag nS c_X12 sI.1 70 = some () from rfl), h1, obW_l, h2, ob_s2, show dF = 99993 + 6 + 1 from rfl, sp_no (by decide) hv h3 6 0 99993 rfl]
    unfold dchk
    rw [ob_s2]
    show (bif Nat.ble 63 s.2.1 && Nat.ble 2301 s.2.2 then _ else none) = _
    rw [h8]
    rfl
  unfold op_11
  rw [C11_2_3 h hx, obW_l, ob_mk (show dtag nS c_X12 sI.1 70 = some () from rfl), hR, obW_l, ob_mk h5, ob_mk h4, show weq 0 0 = true from rfl, cond_true, show (!true) = false from rfl, cond_false, ob_mk h6, show weq (xcmp 0 (xi 0)) 0 = true by decide +kernel, cond_true]
  exact good_1 h7
