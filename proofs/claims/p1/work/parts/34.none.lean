/-! ===== calls that are refused, whatever the words are ===== -/
def sTh : kHS := (hI, 64, 2307)
noncomputable def okR (k : Nat) (y : Option (dR Nat)) : Bool := match y with
  | some (.inl v, hs) => (Nat.beq v 0 && (match f_X12_thrown hs.1 70, dtag nS c_X12 hs.1 70 with | some w, some _ => Nat.beq w k | _, _ => false)) && (Nat.ble hs.2.1 600000 && Nat.ble hs.2.2 7302000)
  | _ => false
theorem okR_spec {k : Nat} {y : Option (dR Nat)} (h : okR k y = true) : ∃ hs : kHS, y = some (.inl 0, hs) ∧ f_X12_thrown hs.1 70 = some k ∧ dtag nS c_X12 hs.1 70 = some () ∧ (Nat.ble hs.2.1 600000 && Nat.ble hs.2.2 7302000) = true := by
  unfold okR at h
  split at h
  · rename_i v hs
    simp only [Bool.and_eq_true] at h
    obtain ⟨⟨h1, h2⟩, h3, h4⟩ := h
    split at h2
    · rename_i w u e1 e2
      have e := Nat.eq_of_beq_eq_true h1
      subst e
      refine ⟨hs, rfl, ?_, e2, by rw [h3, h4]; rfl⟩
      rw [e1, Nat.eq_of_beq_eq_true h2]
    · cases h2
  · cases h
theorem good_1 {hs : kHS} (h : (Nat.ble hs.2.1 600000 && Nat.ble hs.2.2 7302000) = true) : good (some (.inl 1, hs)) = true := by
  unfold good
  dsimp only
  rw [h]
  rfl
theorem good_if {c : Bool} {x y : Option (dR Nat)} (h1 : good x = true) (h2 : good y = true) : good (bif c then x else y) = true := by
  cases c
  · exact h2
  · exact h1
theorem isIn_no {a : Nat} (h : a < 4294967296) : f_X12_isIn a 0 4294967295 = some 0 := by
  unfold f_X12_isIn
  rcases wl_c h 0 (by decide) with h1 | h1 | ⟨-, h1⟩
  · omega
  · rw [(wl_n h1 h (k := 0) (by decide)).1]; rfl
  · have e : wlt 4294967295 a = true := by
      unfold wlt
      rw [Nat.ble_eq]
      show (4294967295 + 2147483648) % 4294967296 + 1 ≤ (a + 2147483648) % 4294967296
      omega
    rw [(wl_e (n := 0) (Nat.zero_le _) h1).1, e]
    rfl
theorem isNoMap_no {a : Nat} (h : a < 4294967296) : f_X12_isNoMap sTh.1 70 a = some 1 := by
  unfold f_X12_isNoMap
  rw [ob_mk (show dgR nS c_X12 3 sTh.1 70 = some 72 from rfl), ob_mk (show dtag nS c_Jx4a65c sTh.1 72 = some () from rfl), ob_mk (show f_Jx4a65c_size_8abf5 sTh.1 72 = some 0 from rfl), show wsub 0 1 = 4294967295 from rfl, isIn_no h]
  rfl
theorem chartAt_no {a : Nat} (h : a < 4294967296) : f_X9_chartAt tb0 21 a sI = some (.inr 2, sTh) := by
  unfold f_X9_chartAt
  rcases wl_c h 0 (by decide) with h1 | h1 | ⟨-, h1⟩
  · omega
  · rw [(wl_n h1 h (k := 0) (by decide)).1]; rfl
  · rw [(wl_e (n := 0) (Nat.zero_le _) h1).1, ob_mk (show dgI nS c_X9 6 sI.1 21 = some 0 from rfl), (wl_e (n := 0) (Nat.zero_le _) h1).2]; rfl
theorem walkerAt_no {a : Nat} (h : a < 4294967296) : f_X9_walkerAt tb0 21 a sI = some (.inr 2, sTh) := by
  unfold f_X9_walkerAt
  rcases wl_c h 0 (by decide) with h1 | h1 | ⟨-, h1⟩
  · omega
  · rw [(wl_n h1 h (k := 0) (by decide)).1]; rfl
  · rw [(wl_e (n := 0) (Nat.zero_le _) h1).1, ob_mk (show dgI nS c_X9 7 sI.1 21 = some 0 from rfl), (wl_e (n := 0) (Nat.zero_le _) h1).2]; rfl
theorem claimAt_no {a : Nat} (h : a < 4294967296) : f_X9_claimAt tb0 21 a sI = some (.inr 2, sTh) := by
  unfold f_X9_claimAt
  rcases wl_c h 0 (by decide) with h1 | h1 | ⟨-, h1⟩
  · omega
  · rw [(wl_n h1 h (k := 0) (by decide)).1]; rfl
  · rw [(wl_e (n := 0) (Nat.zero_le _) h1).1, ob_mk (show dgI nS c_X9 8 sI.1 21 = some 0 from rfl), (wl_e (n := 0) (Nat.zero_le _) h1).2]; rfl
theorem C_r2 (a : Nat) (b : Nat) (c : Nat) (d : Nat) (h : a < 4294967296) : f_L_then tb0 21 a b 82 sI = some (.inl 1, sTh) := by
  unfold f_L_then f_X9_then
  rw [chartAt_no h]
  rfl
theorem R_r2 (a : Nat) (b : Nat) (c : Nat) (d : Nat) (h : a < 4294967296) : okR 1 (f_X12_then tb0 70 a b sTh) = true := by
  unfold f_X12_then
  rw [isNoMap_no h]
  rfl
theorem r2 (a : Nat) (b : Nat) (c : Nat) (d : Nat) (h : a < 4294967296) : good (op_2 a b c d sI) = true := by
  obtain ⟨s', h1, h2, h3, h4⟩ := okR_spec (R_r2 a b c d h)
  unfold op_2
  rw [C_r2 a b c d h, obW_l, ob_mk (show dtag nS c_X12 sTh.1 70 = some () from rfl), h1, obW_l, ob_mk h3, ob_mk h2, show weq 1 1 = true from rfl, cond_true, show (!weq 1 0) = true from rfl, cond_true]
  exact good_1 h4
theorem C_r4 (a : Nat) (b : Nat) (c : Nat) (d : Nat) (h : a < 4294967296) : f_L_claim tb0 21 a b c 82 sI = some (.inl 1, sTh) := by
  unfold f_L_claim f_X9_claim
  rw [chartAt_no h]
  rfl
theorem R_r4 (a : Nat) (b : Nat) (c : Nat) (d : Nat) (h : a < 4294967296) : okR 1 (f_X12_claim 70 a b c sTh) = true := by
  unfold f_X12_claim
  rw [isNoMap_no h]
  rfl
theorem r4 (a : Nat) (b : Nat) (c : Nat) (d : Nat) (h : a < 4294967296) : good (op_4 a b c d sI) = true := by
  obtain ⟨s', h1, h2, h3, h4⟩ := okR_spec (R_r4 a b c d h)
  unfold op_4
  rw [C_r4 a b c d h, obW_l, ob_mk (show dtag nS c_X12 sTh.1 70 = some () from rfl), h1, obW_l, ob_mk h3, ob_mk h2, show weq 1 1 = true from rfl, cond_true, show (!weq 1 0) = true from rfl, cond_true]
  exact good_1 h4
theorem C_r16 (a : Nat) (b : Nat) (c : Nat) (d : Nat) (h : a < 4294967296) : f_L_ofMap tb0 21 a b 82 sI = some (.inl 1, sTh) := by
  unfold f_L_ofMap f_X9_ofMap
  rw [chartAt_no h]
  rfl
theorem R_r16 (a : Nat) (b : Nat) (c : Nat) (d : Nat) (h : a < 4294967296) : okR 1 (f_X12_ofMap 70 a b sTh) = true := by
  unfold f_X12_ofMap
  rw [isNoMap_no h]
  rfl
theorem r16 (a : Nat) (b : Nat) (c : Nat) (d : Nat) (h : a < 4294967296) : good (op_16 a b c d sI) = true := by
  obtain ⟨s', h1, h2, h3, h4⟩ := okR_spec (R_r16 a b c d h)
  unfold op_16
  rw [C_r16 a b c d h, obW_l, ob_mk (show dtag nS c_X12 sTh.1 70 = some () from rfl), h1, obW_l, ob_mk h3, ob_mk h2, show weq 1 1 = true from rfl, cond_true, show (!weq 1 0) = true from rfl, cond_true]
  exact good_1 h4
theorem C_r17 (a : Nat) (b : Nat) (c : Nat) (d : Nat) (h : a < 4294967296) : f_L_image tb0 21 a b 82 sI = some (.inl 1, sTh) := by
  unfold f_L_image f_X9_image
  rw [chartAt_no h]
  rfl
theorem R_r17 (a : Nat) (b : Nat) (c : Nat) (d : Nat) (h : a < 4294967296) : okR 1 (f_X12_image 70 a b sTh) = true := by
  unfold f_X12_image
  rw [isNoMap_no h]
  rfl
theorem r17 (a : Nat) (b : Nat) (c : Nat) (d : Nat) (h : a < 4294967296) : good (op_17 a b c d sI) = true := by
  obtain ⟨s', h1, h2, h3, h4⟩ := okR_spec (R_r17 a b c d h)
  unfold op_17
  rw [C_r17 a b c d h, obW_l, ob_mk (show dtag nS c_X12 sTh.1 70 = some () from rfl), h1, obW_l, ob_mk h3, ob_mk h2, show weq 1 1 = true from rfl, cond_true, show (!weq 1 0) = true from rfl, cond_true]
  exact good_1 h4
theorem C_r18 (a : Nat) (b : Nat) (c : Nat) (d : Nat) (h : a < 4294967296) : f_L_source tb0 21 a b 82 sI = some (.inl 1, sTh) := by
  unfold f_L_source f_X9_source
  rw [chartAt_no h]
  rfl
theorem R_r18 (a : Nat) (b : Nat) (c : Nat) (d : Nat) (h : a < 4294967296) : okR 1 (f_X12_source tb0 70 a b sTh) = true := by
  unfold f_X12_source
  rw [isNoMap_no h]
  rfl
theorem r18 (a : Nat) (b : Nat) (c : Nat) (d : Nat) (h : a < 4294967296) : good (op_18 a b c d sI) = true := by
  obtain ⟨s', h1, h2, h3, h4⟩ := okR_spec (R_r18 a b c d h)
  unfold op_18
  rw [C_r18 a b c d h, obW_l, ob_mk (show dtag nS c_X12 sTh.1 70 = some () from rfl), h1, obW_l, ob_mk h3, ob_mk h2, show weq 1 1 = true from rfl, cond_true, show (!weq 1 0) = true from rfl, cond_true]
  exact good_1 h4
theorem C_r19 (a : Nat) (b : Nat) (c : Nat) (d : Nat) (h : a < 4294967296) : f_L_rounds tb0 21 a 82 sI = some (.inl 1, sTh) := by
  unfold f_L_rounds f_X9_rounds
  rw [chartAt_no h]
  rfl
theorem R_r19 (a : Nat) (b : Nat) (c : Nat) (d : Nat) (h : a < 4294967296) : okR 1 (f_X12_rounds_ 70 a sTh) = true := by
  unfold f_X12_rounds_
  rw [isNoMap_no h]
  rfl
theorem r19 (a : Nat) (b : Nat) (c : Nat) (d : Nat) (h : a < 4294967296) : good (op_19 a b c d sI) = true := by
  obtain ⟨s', h1, h2, h3, h4⟩ := okR_spec (R_r19 a b c d h)
  unfold op_19
  rw [C_r19 a b c d h, obW_l, ob_mk (show dtag nS c_X12 sTh.1 70 = some () from rfl), h1, obW_l, ob_mk h3, ob_mk h2, show weq 1 1 = true from rfl, cond_true, show (!weq 1 0) = true from rfl, cond_true]
  exact good_1 h4
theorem C_r20 (a : Nat) (b : Nat) (c : Nat) (d : Nat) (h : a < 4294967296) : f_L_period tb0 21 a 82 sI = some (.inl 1, sTh) := by
  unfold f_L_period f_X9_period
  rw [chartAt_no h]
  rfl
theorem R_r20 (a : Nat) (b : Nat) (c : Nat) (d : Nat) (h : a < 4294967296) : okR 1 (f_X12_period 70 a sTh) = true := by
  unfold f_X12_period
  rw [isNoMap_no h]
  rfl
theorem r20 (a : Nat) (b : Nat) (c : Nat) (d : Nat) (h : a < 4294967296) : good (op_20 a b c d sI) = true := by
  obtain ⟨s', h1, h2, h3, h4⟩ := okR_spec (R_r20 a b c d h)
  unfold op_20
  rw [C_r20 a b c d h, obW_l, ob_mk (show dtag nS c_X12 sTh.1 70 = some () from rfl), h1, obW_l, ob_mk h3, ob_mk h2, show weq 1 1 = true from rfl, cond_true, show (!weq 1 0) = true from rfl, cond_true]
  exact good_1 h4
theorem C_r21 (a : Nat) (b : Nat) (c : Nat) (d : Nat) (h : a < 4294967296) : f_L_against tb0 21 a b c 82 sI = some (.inl 1, sTh) := by
  unfold f_L_against f_X9_against
  rw [chartAt_no h]
  rfl
theorem R_r21 (a : Nat) (b : Nat) (c : Nat) (d : Nat) (h : a < 4294967296) : okR 1 (f_X12_against 70 a b c sTh) = true := by
  unfold f_X12_against
  rw [isNoMap_no h]
  rfl
theorem r21 (a : Nat) (b : Nat) (c : Nat) (d : Nat) (h : a < 4294967296) : good (op_21 a b c d sI) = true := by
  obtain ⟨s', h1, h2, h3, h4⟩ := okR_spec (R_r21 a b c d h)
  unfold op_21
  rw [C_r21 a b c d h, obW_l, ob_mk (show dtag nS c_X12 sTh.1 70 = some () from rfl), h1, obW_l, ob_mk h3, ob_mk h2, show weq 1 1 = true from rfl, cond_true, show (!weq 1 0) = true from rfl, cond_true]
  exact good_1 h4
theorem C_r22 (a : Nat) (b : Nat) (c : Nat) (d : Nat) (h : a < 4294967296) : f_L_cancels tb0 21 a b 82 sI = some (.inl 1, sTh) := by
  unfold f_L_cancels f_X9_cancels
  rw [chartAt_no h]
  rfl
theorem R_r22 (a : Nat) (b : Nat) (c : Nat) (d : Nat) (h : a < 4294967296) : okR 1 (f_X12_cancels tb0 70 a b sTh) = true := by
  unfold f_X12_cancels
  rw [isNoMap_no h]
  rfl
theorem r22 (a : Nat) (b : Nat) (c : Nat) (d : Nat) (h : a < 4294967296) : good (op_22 a b c d sI) = true := by
  obtain ⟨s', h1, h2, h3, h4⟩ := okR_spec (R_r22 a b c d h)
  unfold op_22
  rw [C_r22 a b c d h, obW_l, ob_mk (show dtag nS c_X12 sTh.1 70 = some () from rfl), h1, obW_l, ob_mk h3, ob_mk h2, show weq 1 1 = true from rfl, cond_true, show (!weq 1 0) = true from rfl, cond_true]
  exact good_1 h4
theorem C_r5 (a : Nat) (b : Nat) (c : Nat) (d : Nat) (h : a < 4294967296) : f_L_send tb0 21 a b c 82 sI = some (.inl 1, sTh) := by
  unfold f_L_send f_X9_send
  rw [walkerAt_no h]
  rfl
theorem R_r5 (a : Nat) (b : Nat) (c : Nat) (d : Nat) (h : a < 4294967296) : okR 1 (f_X12_send 70 a b c sTh) = true := by
  unfold f_X12_send
  rw [ob_mk (show dgR nS c_X12 4 sTh.1 70 = some 73 from rfl), ob_mk (show dtag nS c_Jx4a65c sTh.1 73 = some () from rfl), ob_mk (show f_Jx4a65c_size_8abf5 sTh.1 73 = some 0 from rfl), show wsub 0 1 = 4294967295 from rfl, isIn_no h]
  rfl
theorem r5 (a : Nat) (b : Nat) (c : Nat) (d : Nat) (h : a < 4294967296) : good (op_5 a b c d sI) = true := by
  obtain ⟨s', h1, h2, h3, h4⟩ := okR_spec (R_r5 a b c d h)
  unfold op_5
  rw [C_r5 a b c d h, obW_l, ob_mk (show dtag nS c_X12 sTh.1 70 = some () from rfl), h1, obW_l, ob_mk h3, ob_mk h2, show weq 1 1 = true from rfl, cond_true, show (!weq 1 0) = true from rfl, cond_true]
  exact good_1 h4
theorem C_r23 (a : Nat) (b : Nat) (c : Nat) (d : Nat) (h : a < 4294967296) : f_L_ofWalker tb0 21 a b 82 sI = some (.inl 1, sTh) := by
  unfold f_L_ofWalker f_X9_ofWalker
  rw [walkerAt_no h]
  rfl
theorem R_r23 (a : Nat) (b : Nat) (c : Nat) (d : Nat) (h : a < 4294967296) : okR 1 (f_X12_ofWalker 70 a b sTh) = true := by
  unfold f_X12_ofWalker
  rw [ob_mk (show dgR nS c_X12 4 sTh.1 70 = some 73 from rfl), ob_mk (show dtag nS c_Jx4a65c sTh.1 73 = some () from rfl), ob_mk (show f_Jx4a65c_size_8abf5 sTh.1 73 = some 0 from rfl), show wsub 0 1 = 4294967295 from rfl, isIn_no h]
  rfl
theorem r23 (a : Nat) (b : Nat) (c : Nat) (d : Nat) (h : a < 4294967296) : good (op_23 a b c d sI) = true := by
  obtain ⟨s', h1, h2, h3, h4⟩ := okR_spec (R_r23 a b c d h)
  unfold op_23
  rw [C_r23 a b c d h, obW_l, ob_mk (show dtag nS c_X12 sTh.1 70 = some () from rfl), h1, obW_l, ob_mk h3, ob_mk h2, show weq 1 1 = true from rfl, cond_true, show (!weq 1 0) = true from rfl, cond_true]
  exact good_1 h4
theorem C_r6 (a : Nat) (b : Nat) (c : Nat) (d : Nat) (h : a < 4294967296) : f_L_trial tb0 21 a 82 sI = some (.inl 1, sTh) := by
  unfold f_L_trial f_X9_trial
  rw [claimAt_no h]
  rfl
theorem R_r6 (a : Nat) (b : Nat) (c : Nat) (d : Nat) (h : a < 4294967296) : okR 1 (f_X12_trial 70 a sTh) = true := by
  unfold f_X12_trial
  rw [ob_mk (show dgR nS c_X12 5 sTh.1 70 = some 74 from rfl), ob_mk (show dtag nS c_Jx4a65c sTh.1 74 = some () from rfl), ob_mk (show f_Jx4a65c_size_8abf5 sTh.1 74 = some 0 from rfl), show wsub 0 1 = 4294967295 from rfl, isIn_no h]
  rfl
theorem r6 (a : Nat) (b : Nat) (c : Nat) (d : Nat) (h : a < 4294967296) : good (op_6 a b c d sI) = true := by
  obtain ⟨s', h1, h2, h3, h4⟩ := okR_spec (R_r6 a b c d h)
  unfold op_6
  rw [C_r6 a b c d h, obW_l, ob_mk (show dtag nS c_X12 sTh.1 70 = some () from rfl), h1, obW_l, ob_mk h3, ob_mk h2, show weq 1 1 = true from rfl, cond_true, show (!weq 1 0) = true from rfl, cond_true]
  exact good_1 h4
theorem C_r24 (a : Nat) (b : Nat) (c : Nat) (d : Nat) (h : a < 4294967296) : f_L_ofClaim tb0 21 a b 82 sI = some (.inl 1, sTh) := by
  unfold f_L_ofClaim f_X9_ofClaim
  rw [claimAt_no h]
  rfl
theorem R_r24 (a : Nat) (b : Nat) (c : Nat) (d : Nat) (h : a < 4294967296) : okR 1 (f_X12_ofClaim 70 a b sTh) = true := by
  unfold f_X12_ofClaim
  rw [ob_mk (show dgR nS c_X12 5 sTh.1 70 = some 74 from rfl), ob_mk (show dtag nS c_Jx4a65c sTh.1 74 = some () from rfl), ob_mk (show f_Jx4a65c_size_8abf5 sTh.1 74 = some 0 from rfl), show wsub 0 1 = 4294967295 from rfl, isIn_no h]
  rfl
theorem r24 (a : Nat) (b : Nat) (c : Nat) (d : Nat) (h : a < 4294967296) : good (op_24 a b c d sI) = true := by
  obtain ⟨s', h1, h2, h3, h4⟩ := okR_spec (R_r24 a b c d h)
  unfold op_24
  rw [C_r24 a b c d h, obW_l, ob_mk (show dtag nS c_X12 sTh.1 70 = some () from rfl), h1, obW_l, ob_mk h3, ob_mk h2, show weq 1 1 = true from rfl, cond_true, show (!weq 1 0) = true from rfl, cond_true]
  exact good_1 h4
