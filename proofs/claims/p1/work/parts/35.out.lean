/-! ===== one word out of its range, the others in theirs ===== -/
theorem isIn_out {a n : Nat} (h : a < 4294967296) (hn : n < 2147483647) (hx : ¬ a < n + 1) : f_X12_isIn a 0 n = some 0 := by
  unfold f_X12_isIn
  rcases wl_c h (n + 1) (by omega) with h1 | h1 | ⟨h0, h1⟩
  · exact absurd h1 hx
  · rw [(wl_n h1 h (k := 0) (by decide)).1]; rfl
  · rw [(wl_b h0 h1 (k := 0) (by omega)).1, (wl_b h0 h1 (k := n) (by omega)).2.1]; rfl
theorem wlt_out {a n : Nat} (h : a < 4294967296) (hn : n < 2147483648) (hx : ¬ a < n) : wlt a 0 = true ∨ (wlt a 0 = false ∧ wlt a n = false) := by
  rcases wl_c h n (by omega) with h1 | h1 | ⟨h0, h1⟩
  · exact absurd h1 hx
  · exact Or.inl (wl_n h1 h (k := 0) (by decide)).1
  · exact Or.inr ⟨(wl_e (n := 0) (Nat.zero_le _) h1).1, (wl_e h0 h1).1⟩
theorem needRank_no0 {b : Nat} (h : b < 4294967296) (hx : ¬ b < 5) : f_X9_needRank tb0 21 0 b sI = some (.inr 2, sTh) := by
  unfold f_X9_needRank
  rw [show f_X9_needFamily 0 sI = some (.inl (), sI) from rfl, obW_l]
  rcases wlt_out h (by decide) hx with e | ⟨e, e2⟩
  · rw [e]; rfl
  · rw [e, cond_false, ob_mk (show dgR nS c_X9 5 sI.1 21 = some 29 from rfl), ob_mk (show dtag nS c_X4 sI.1 29 = some () from rfl), ob_mk (show f_X4_count tb0 sI.1 29 0 = some 5 from rfl), e2]; rfl
theorem isNoRank_no0 {b : Nat} (h : b < 4294967296) (hx : ¬ b < 5) : f_X12_isNoRank tb0 sTh.1 70 0 b = some 1 := by
  unfold f_X12_isNoRank
  rw [ob_mk (show f_X12_isNoFamily 0 = some 0 from rfl), show (!weq 0 0) = false from rfl, cond_false, ob_mk (show dgR nS c_X12 2 sTh.1 70 = some 71 from rfl), ob_mk (show daldA nS sTh.1 71 0 = some 79 from rfl), ob_mk (show dalenG tb0 sTh.1 79 = some 5 from rfl), show wsub 5 1 = 4 from rfl, isIn_out h (by decide) hx]
  rfl
theorem needRank_no1 {b : Nat} (h : b < 4294967296) (hx : ¬ b < 5) : f_X9_needRank tb0 21 1 b sI = some (.inr 2, sTh) := by
  unfold f_X9_needRank
  rw [show f_X9_needFamily 1 sI = some (.inl (), sI) from rfl, obW_l]
  rcases wlt_out h (by decide) hx with e | ⟨e, e2⟩
  · rw [e]; rfl
  · rw [e, cond_false, ob_mk (show dgR nS c_X9 5 sI.1 21 = some 29 from rfl), ob_mk (show dtag nS c_X4 sI.1 29 = some () from rfl), ob_mk (show f_X4_count tb0 sI.1 29 1 = some 5 from rfl), e2]; rfl
theorem isNoRank_no1 {b : Nat} (h : b < 4294967296) (hx : ¬ b < 5) : f_X12_isNoRank tb0 sTh.1 70 1 b = some 1 := by
  unfold f_X12_isNoRank
  rw [ob_mk (show f_X12_isNoFamily 1 = some 0 from rfl), show (!weq 0 0) = false from rfl, cond_false, ob_mk (show dgR nS c_X12 2 sTh.1 70 = some 71 from rfl), ob_mk (show daldA nS sTh.1 71 1 = some 79 from rfl), ob_mk (show dalenG tb0 sTh.1 79 = some 5 from rfl), show wsub 5 1 = 4 from rfl, isIn_out h (by decide) hx]
  rfl
theorem needRank_no2 {b : Nat} (h : b < 4294967296) (hx : ¬ b < 6) : f_X9_needRank tb0 21 2 b sI = some (.inr 2, sTh) := by
  unfold f_X9_needRank
  rw [show f_X9_needFamily 2 sI = some (.inl (), sI) from rfl, obW_l]
  rcases wlt_out h (by decide) hx with e | ⟨e, e2⟩
  · rw [e]; rfl
  · rw [e, cond_false, ob_mk (show dgR nS c_X9 5 sI.1 21 = some 29 from rfl), ob_mk (show dtag nS c_X4 sI.1 29 = some () from rfl), ob_mk (show f_X4_count tb0 sI.1 29 2 = some 6 from rfl), e2]; rfl
theorem isNoRank_no2 {b : Nat} (h : b < 4294967296) (hx : ¬ b < 6) : f_X12_isNoRank tb0 sTh.1 70 2 b = some 1 := by
  unfold f_X12_isNoRank
  rw [ob_mk (show f_X12_isNoFamily 2 = some 0 from rfl), show (!weq 0 0) = false from rfl, cond_false, ob_mk (show dgR nS c_X12 2 sTh.1 70 = some 71 from rfl), ob_mk (show daldA nS sTh.1 71 2 = some 80 from rfl), ob_mk (show dalenG tb0 sTh.1 80 = some 6 from rfl), show wsub 6 1 = 5 from rfl, isIn_out h (by decide) hx]
  rfl
theorem C_t8_0 (b : Nat) (c : Nat) (d : Nat) (h : b < 4294967296) (hx : ¬ b < 5) : f_L_unrank tb0 21 0 b 82 sI = some (.inl 1, sTh) := by
  unfold f_L_unrank f_X9_unrank
  rw [needRank_no0 h hx]
  rfl
theorem R_t8_0 (b : Nat) (c : Nat) (d : Nat) (h : b < 4294967296) (hx : ¬ b < 5) : okR 1 (f_X12_unrank tb0 70 0 b sTh) = true := by
  unfold f_X12_unrank
  rw [isNoRank_no0 h hx]
  rfl
theorem t8_0 (b : Nat) (c : Nat) (d : Nat) (h : b < 4294967296) (hx : ¬ b < 5) : good (op_8 0 b c d sI) = true := by
  obtain ⟨s', h1, h2, h3, h4⟩ := okR_spec (R_t8_0 b c d h hx)
  unfold op_8
  rw [C_t8_0 b c d h hx, obW_l, ob_mk (show dtag nS c_X12 sTh.1 70 = some () from rfl), h1, obW_l, ob_mk h3, ob_mk h2, show weq 1 1 = true from rfl, cond_true, show (!weq 1 0) = true from rfl, cond_true]
  exact good_1 h4
theorem C_t10_0 (b : Nat) (c : Nat) (d : Nat) (h : c < 4294967296) (hx : ¬ c < 5) : f_L_statistic tb0 21 0 b c 82 sI = some (.inl 1, sTh) := by
  unfold f_L_statistic f_X9_statistic
  rw [needRank_no0 h hx]
  rfl
theorem R_t10_0 (b : Nat) (c : Nat) (d : Nat) (h : c < 4294967296) (hx : ¬ c < 5) : okR 1 (f_X12_statistic tb0 70 0 b c sTh) = true := by
  unfold f_X12_statistic
  rw [isNoRank_no0 h hx]
  rfl
theorem t10_0 (b : Nat) (c : Nat) (d : Nat) (h : c < 4294967296) (hx : ¬ c < 5) : good (op_10 0 b c d sI) = true := by
  obtain ⟨s', h1, h2, h3, h4⟩ := okR_spec (R_t10_0 b c d h hx)
  unfold op_10
  rw [C_t10_0 b c d h hx, obW_l, ob_mk (show dtag nS c_X12 sTh.1 70 = some () from rfl), h1, obW_l, ob_mk h3, ob_mk h2, show weq 1 1 = true from rfl, cond_true, show (!weq 1 0) = true from rfl, cond_true]
  exact good_1 h4
theorem C_t8_1 (b : Nat) (c : Nat) (d : Nat) (h : b < 4294967296) (hx : ¬ b < 5) : f_L_unrank tb0 21 1 b 82 sI = some (.inl 1, sTh) := by
  unfold f_L_unrank f_X9_unrank
  rw [needRank_no1 h hx]
  rfl
theorem R_t8_1 (b : Nat) (c : Nat) (d : Nat) (h : b < 4294967296) (hx : ¬ b < 5) : okR 1 (f_X12_unrank tb0 70 1 b sTh) = true := by
  unfold f_X12_unrank
  rw [isNoRank_no1 h hx]
  rfl
theorem t8_1 (b : Nat) (c : Nat) (d : Nat) (h : b < 4294967296) (hx : ¬ b < 5) : good (op_8 1 b c d sI) = true := by
  obtain ⟨s', h1, h2, h3, h4⟩ := okR_spec (R_t8_1 b c d h hx)
  unfold op_8
  rw [C_t8_1 b c d h hx, obW_l, ob_mk (show dtag nS c_X12 sTh.1 70 = some () from rfl), h1, obW_l, ob_mk h3, ob_mk h2, show weq 1 1 = true from rfl, cond_true, show (!weq 1 0) = true from rfl, cond_true]
  exact good_1 h4
theorem C_t10_1 (b : Nat) (c : Nat) (d : Nat) (h : c < 4294967296) (hx : ¬ c < 5) : f_L_statistic tb0 21 1 b c 82 sI = some (.inl 1, sTh) := by
  unfold f_L_statistic f_X9_statistic
  rw [needRank_no1 h hx]
  rfl
theorem R_t10_1 (b : Nat) (c : Nat) (d : Nat) (h : c < 4294967296) (hx : ¬ c < 5) : okR 1 (f_X12_statistic tb0 70 1 b c sTh) = true := by
  unfold f_X12_statistic
  rw [isNoRank_no1 h hx]
  rfl
theorem t10_1 (b : Nat) (c : Nat) (d : Nat) (h : c < 4294967296) (hx : ¬ c < 5) : good (op_10 1 b c d sI) = true := by
  obtain ⟨s', h1, h2, h3, h4⟩ := okR_spec (R_t10_1 b c d h hx)
  unfold op_10
  rw [C_t10_1 b c d h hx, obW_l, ob_mk (show dtag nS c_X12 sTh.1 70 = some () from rfl), h1, obW_l, ob_mk h3, ob_mk h2, show weq 1 1 = true from rfl, cond_true, show (!weq 1 0) = true from rfl, cond_true]
  exact good_1 h4
theorem C_t8_2 (b : Nat) (c : Nat) (d : Nat) (h : b < 4294967296) (hx : ¬ b < 6) : f_L_unrank tb0 21 2 b 82 sI = some (.inl 1, sTh) := by
  unfold f_L_unrank f_X9_unrank
  rw [needRank_no2 h hx]
  rfl
theorem R_t8_2 (b : Nat) (c : Nat) (d : Nat) (h : b < 4294967296) (hx : ¬ b < 6) : okR 1 (f_X12_unrank tb0 70 2 b sTh) = true := by
  unfold f_X12_unrank
  rw [isNoRank_no2 h hx]
  rfl
theorem t8_2 (b : Nat) (c : Nat) (d : Nat) (h : b < 4294967296) (hx : ¬ b < 6) : good (op_8 2 b c d sI) = true := by
  obtain ⟨s', h1, h2, h3, h4⟩ := okR_spec (R_t8_2 b c d h hx)
  unfold op_8
  rw [C_t8_2 b c d h hx, obW_l, ob_mk (show dtag nS c_X12 sTh.1 70 = some () from rfl), h1, obW_l, ob_mk h3, ob_mk h2, show weq 1 1 = true from rfl, cond_true, show (!weq 1 0) = true from rfl, cond_true]
  exact good_1 h4
theorem C_t10_2 (b : Nat) (c : Nat) (d : Nat) (h : c < 4294967296) (hx : ¬ c < 6) : f_L_statistic tb0 21 2 b c 82 sI = some (.inl 1, sTh) := by
  unfold f_L_statistic f_X9_statistic
  rw [needRank_no2 h hx]
  rfl
theorem R_t10_2 (b : Nat) (c : Nat) (d : Nat) (h : c < 4294967296) (hx : ¬ c < 6) : okR 1 (f_X12_statistic tb0 70 2 b c sTh) = true := by
  unfold f_X12_statistic
  rw [isNoRank_no2 h hx]
  rfl
theorem t10_2 (b : Nat) (c : Nat) (d : Nat) (h : c < 4294967296) (hx : ¬ c < 6) : good (op_10 2 b c d sI) = true := by
  obtain ⟨s', h1, h2, h3, h4⟩ := okR_spec (R_t10_2 b c d h hx)
  unfold op_10
  rw [C_t10_2 b c d h hx, obW_l, ob_mk (show dtag nS c_X12 sTh.1 70 = some () from rfl), h1, obW_l, ob_mk h3, ob_mk h2, show weq 1 1 = true from rfl, cond_true, show (!weq 1 0) = true from rfl, cond_true]
  exact good_1 h4
theorem C_t14 (a : Nat) (b : Nat) (c : Nat) (d : Nat) (h : a < 4294967296) (hx : ¬ a < 6) : f_L_contains tb0 21 a b 82 sI = some (.inl 1, sTh) := by
  unfold f_L_contains f_X9_contains
  rw [needRank_no2 h hx]
  rfl
theorem R_t14 (a : Nat) (b : Nat) (c : Nat) (d : Nat) (h : a < 4294967296) (hx : ¬ a < 6) : okR 1 (f_X12_contains tb0 70 a b sTh) = true := by
  unfold f_X12_contains
  rw [isNoRank_no2 h hx]
  rfl
theorem t14 (a : Nat) (b : Nat) (c : Nat) (d : Nat) (h : a < 4294967296) (hx : ¬ a < 6) : good (op_14 a b c d sI) = true := by
  obtain ⟨s', h1, h2, h3, h4⟩ := okR_spec (R_t14 a b c d h hx)
  unfold op_14
  rw [C_t14 a b c d h hx, obW_l, ob_mk (show dtag nS c_X12 sTh.1 70 = some () from rfl), h1, obW_l, ob_mk h3, ob_mk h2, show weq 1 1 = true from rfl, cond_true, show (!weq 1 0) = true from rfl, cond_true]
  exact good_1 h4
theorem u12_0_n (b : Nat) (c : Nat) (d : Nat) (h1 : 2147483648 ≤ b) (h2 : b < 4294967296) : good (op_12 0 b c d sI) = true := by
  have e0 := (wl_n h1 h2 (k := 0) (by decide)).1
  unfold op_12 f_L_signs f_X9_signs f_X12_signs f_X9_needStatistic f_X12_isNoStatistic f_X12_isIn
  have e4 := (wl_n h1 h2 (k := 1) (by decide)).1
  simp only [e0, e4]
  rfl
theorem u12_0_b (b : Nat) (c : Nat) (d : Nat) (h1 : 4 ≤ b) (h2 : b < 2147483648) : good (op_12 0 b c d sI) = true := by
  have e0 := (wl_b h1 h2 (k := 0) (by decide)).1
  have e1 := (wl_b h1 h2 (k := 3) (by decide)).2.1
  have e2 := (wl_e h1 h2).1
  have e3 := (wl_b h1 h2 (k := 3) (by decide)).2.2.1
  have e4 := (wl_b h1 h2 (k := 1) (by decide)).1
  unfold op_12 f_L_signs f_X9_signs f_X12_signs f_X9_needStatistic f_X12_isNoStatistic f_X12_isIn
  simp only [e0, e1, e2, e3, e4]
  rfl
theorem u26_0_n (b : Nat) (c : Nat) (d : Nat) (h1 : 2147483648 ≤ b) (h2 : b < 4294967296) : good (op_26 0 b c d sI) = true := by
  have e0 := (wl_n h1 h2 (k := 0) (by decide)).1
  unfold op_26 f_L_mean f_X9_mean f_X12_mean f_X9_needStatistic f_X12_isNoStatistic f_X12_isIn
  have e4 := (wl_n h1 h2 (k := 1) (by decide)).1
  simp only [e0, e4]
  rfl
theorem u26_0_b (b : Nat) (c : Nat) (d : Nat) (h1 : 4 ≤ b) (h2 : b < 2147483648) : good (op_26 0 b c d sI) = true := by
  have e0 := (wl_b h1 h2 (k := 0) (by decide)).1
  have e1 := (wl_b h1 h2 (k := 3) (by decide)).2.1
  have e2 := (wl_e h1 h2).1
  have e3 := (wl_b h1 h2 (k := 3) (by decide)).2.2.1
  have e4 := (wl_b h1 h2 (k := 1) (by decide)).1
  unfold op_26 f_L_mean f_X9_mean f_X12_mean f_X9_needStatistic f_X12_isNoStatistic f_X12_isIn
  simp only [e0, e1, e2, e3, e4]
  rfl
theorem u11_0_n (b : Nat) (c : Nat) (d : Nat) (h1 : 2147483648 ≤ b) (h2 : b < 4294967296) : good (op_11 0 b c d sI) = true := by
  have e0 := (wl_n h1 h2 (k := 0) (by decide)).1
  unfold op_11 f_L_spread f_X9_spread f_X12_spread f_X9_needStatistic f_X12_isNoStatistic f_X12_isIn
  have e4 := (wl_n h1 h2 (k := 1) (by decide)).1
  simp only [e0, e4]
  rfl
theorem u11_0_b (b : Nat) (c : Nat) (d : Nat) (h1 : 4 ≤ b) (h2 : b < 2147483648) : good (op_11 0 b c d sI) = true := by
  have e0 := (wl_b h1 h2 (k := 0) (by decide)).1
  have e1 := (wl_b h1 h2 (k := 3) (by decide)).2.1
  have e2 := (wl_e h1 h2).1
  have e3 := (wl_b h1 h2 (k := 3) (by decide)).2.2.1
  have e4 := (wl_b h1 h2 (k := 1) (by decide)).1
  unfold op_11 f_L_spread f_X9_spread f_X12_spread f_X9_needStatistic f_X12_isNoStatistic f_X12_isIn
  simp only [e0, e1, e2, e3, e4]
  rfl
theorem u10_0_0_n (b : Nat) (d : Nat) (h1 : 2147483648 ≤ b) (h2 : b < 4294967296) : good (op_10 0 b 0 d sI) = true := by
  have e0 := (wl_n h1 h2 (k := 0) (by decide)).1
  unfold op_10 f_L_statistic f_X9_statistic f_X12_statistic f_X9_needStatistic f_X12_isNoStatistic f_X12_isIn
  have e4 := (wl_n h1 h2 (k := 1) (by decide)).1
  simp only [e0, e4]
  rfl
theorem u10_0_0_b (b : Nat) (d : Nat) (h1 : 4 ≤ b) (h2 : b < 2147483648) : good (op_10 0 b 0 d sI) = true := by
  have e0 := (wl_b h1 h2 (k := 0) (by decide)).1
  have e1 := (wl_b h1 h2 (k := 3) (by decide)).2.1
  have e2 := (wl_e h1 h2).1
  have e3 := (wl_b h1 h2 (k := 3) (by decide)).2.2.1
  have e4 := (wl_b h1 h2 (k := 1) (by decide)).1
  unfold op_10 f_L_statistic f_X9_statistic f_X12_statistic f_X9_needStatistic f_X12_isNoStatistic f_X12_isIn
  simp only [e0, e1, e2, e3, e4]
  rfl
theorem u10_0_1_n (b : Nat) (d : Nat) (h1 : 2147483648 ≤ b) (h2 : b < 4294967296) : good (op_10 0 b 1 d sI) = true := by
  have e0 := (wl_n h1 h2 (k := 0) (by decide)).1
  unfold op_10 f_L_statistic f_X9_statistic f_X12_statistic f_X9_needStatistic f_X12_isNoStatistic f_X12_isIn
  have e4 := (wl_n h1 h2 (k := 1) (by decide)).1
  simp only [e0, e4]
  rfl
theorem u10_0_1_b (b : Nat) (d : Nat) (h1 : 4 ≤ b) (h2 : b < 2147483648) : good (op_10 0 b 1 d sI) = true := by
  have e0 := (wl_b h1 h2 (k := 0) (by decide)).1
  have e1 := (wl_b h1 h2 (k := 3) (by decide)).2.1
  have e2 := (wl_e h1 h2).1
  have e3 := (wl_b h1 h2 (k := 3) (by decide)).2.2.1
  have e4 := (wl_b h1 h2 (k := 1) (by decide)).1
  unfold op_10 f_L_statistic f_X9_statistic f_X12_statistic f_X9_needStatistic f_X12_isNoStatistic f_X12_isIn
  simp only [e0, e1, e2, e3, e4]
  rfl
theorem u10_0_2_n (b : Nat) (d : Nat) (h1 : 2147483648 ≤ b) (h2 : b < 4294967296) : good (op_10 0 b 2 d sI) = true := by
  have e0 := (wl_n h1 h2 (k := 0) (by decide)).1
  unfold op_10 f_L_statistic f_X9_statistic f_X12_statistic f_X9_needStatistic f_X12_isNoStatistic f_X12_isIn
  have e4 := (wl_n h1 h2 (k := 1) (by decide)).1
  simp only [e0, e4]
  rfl
theorem u10_0_2_b (b : Nat) (d : Nat) (h1 : 4 ≤ b) (h2 : b < 2147483648) : good (op_10 0 b 2 d sI) = true := by
  have e0 := (wl_b h1 h2 (k := 0) (by decide)).1
  have e1 := (wl_b h1 h2 (k := 3) (by decide)).2.1
  have e2 := (wl_e h1 h2).1
  have e3 := (wl_b h1 h2 (k := 3) (by decide)).2.2.1
  have e4 := (wl_b h1 h2 (k := 1) (by decide)).1
  unfold op_10 f_L_statistic f_X9_statistic f_X12_statistic f_X9_needStatistic f_X12_isNoStatistic f_X12_isIn
  simp only [e0, e1, e2, e3, e4]
  rfl
theorem u10_0_3_n (b : Nat) (d : Nat) (h1 : 2147483648 ≤ b) (h2 : b < 4294967296) : good (op_10 0 b 3 d sI) = true := by
  have e0 := (wl_n h1 h2 (k := 0) (by decide)).1
  unfold op_10 f_L_statistic f_X9_statistic f_X12_statistic f_X9_needStatistic f_X12_isNoStatistic f_X12_isIn
  have e4 := (wl_n h1 h2 (k := 1) (by decide)).1
  simp only [e0, e4]
  rfl
theorem u10_0_3_b (b : Nat) (d : Nat) (h1 : 4 ≤ b) (h2 : b < 2147483648) : good (op_10 0 b 3 d sI) = true := by
  have e0 := (wl_b h1 h2 (k := 0) (by decide)).1
  have e1 := (wl_b h1 h2 (k := 3) (by decide)).2.1
  have e2 := (wl_e h1 h2).1
  have e3 := (wl_b h1 h2 (k := 3) (by decide)).2.2.1
  have e4 := (wl_b h1 h2 (k := 1) (by decide)).1
  unfold op_10 f_L_statistic f_X9_statistic f_X12_statistic f_X9_needStatistic f_X12_isNoStatistic f_X12_isIn
  simp only [e0, e1, e2, e3, e4]
  rfl
theorem u10_0_4_n (b : Nat) (d : Nat) (h1 : 2147483648 ≤ b) (h2 : b < 4294967296) : good (op_10 0 b 4 d sI) = true := by
  have e0 := (wl_n h1 h2 (k := 0) (by decide)).1
  unfold op_10 f_L_statistic f_X9_statistic f_X12_statistic f_X9_needStatistic f_X12_isNoStatistic f_X12_isIn
  have e4 := (wl_n h1 h2 (k := 1) (by decide)).1
  simp only [e0, e4]
  rfl
theorem u10_0_4_b (b : Nat) (d : Nat) (h1 : 4 ≤ b) (h2 : b < 2147483648) : good (op_10 0 b 4 d sI) = true := by
  have e0 := (wl_b h1 h2 (k := 0) (by decide)).1
  have e1 := (wl_b h1 h2 (k := 3) (by decide)).2.1
  have e2 := (wl_e h1 h2).1
  have e3 := (wl_b h1 h2 (k := 3) (by decide)).2.2.1
  have e4 := (wl_b h1 h2 (k := 1) (by decide)).1
  unfold op_10 f_L_statistic f_X9_statistic f_X12_statistic f_X9_needStatistic f_X12_isNoStatistic f_X12_isIn
  simp only [e0, e1, e2, e3, e4]
  rfl
theorem u13_0_n (b : Nat) (c : Nat) (d : Nat) (h1 : 2147483648 ≤ c) (h2 : c < 4294967296) : good (op_13 0 b c d sI) = true := by
  have e0 := (wl_n h1 h2 (k := 0) (by decide)).1
  unfold op_13 f_L_alike f_X9_alike f_X12_alike f_X9_needFamily f_X12_isNoFamily f_X12_isIn
  have e4 := (wl_n h1 h2 (k := 1) (by decide)).1
  simp only [e0, e4]
  rfl
theorem u13_0_b (b : Nat) (c : Nat) (d : Nat) (h1 : 3 ≤ c) (h2 : c < 2147483648) : good (op_13 0 b c d sI) = true := by
  have e0 := (wl_b h1 h2 (k := 0) (by decide)).1
  have e1 := (wl_b h1 h2 (k := 2) (by decide)).2.1
  have e2 := (wl_e h1 h2).1
  have e3 := (wl_b h1 h2 (k := 2) (by decide)).2.2.1
  have e4 := (wl_b h1 h2 (k := 1) (by decide)).1
  unfold op_13 f_L_alike f_X9_alike f_X12_alike f_X9_needFamily f_X12_isNoFamily f_X12_isIn
  simp only [e0, e1, e2, e3, e4]
  rfl
theorem u13_0_0_n (b : Nat) (d : Nat) (h1 : 2147483648 ≤ b) (h2 : b < 4294967296) : good (op_13 0 b 0 d sI) = true := by
  have e0 := (wl_n h1 h2 (k := 0) (by decide)).1
  unfold op_13 f_L_alike f_X9_alike f_X12_alike f_X9_needStatistic f_X12_isNoStatistic f_X12_isIn
  have e4 := (wl_n h1 h2 (k := 1) (by decide)).1
  simp only [e0, e4]
  rfl
theorem u13_0_0_b (b : Nat) (d : Nat) (h1 : 4 ≤ b) (h2 : b < 2147483648) : good (op_13 0 b 0 d sI) = true := by
  have e0 := (wl_b h1 h2 (k := 0) (by decide)).1
  have e1 := (wl_b h1 h2 (k := 3) (by decide)).2.1
  have e2 := (wl_e h1 h2).1
  have e3 := (wl_b h1 h2 (k := 3) (by decide)).2.2.1
  have e4 := (wl_b h1 h2 (k := 1) (by decide)).1
  unfold op_13 f_L_alike f_X9_alike f_X12_alike f_X9_needStatistic f_X12_isNoStatistic f_X12_isIn
  simp only [e0, e1, e2, e3, e4]
  rfl
theorem u13_0_0_0_n (d : Nat) (h1 : 2147483648 ≤ d) (h2 : d < 4294967296) : good (op_13 0 0 0 d sI) = true := by
  have e0 := (wl_n h1 h2 (k := 0) (by decide)).1
  unfold op_13 f_L_alike f_X9_alike f_X12_alike f_X9_needStatistic f_X12_isNoStatistic f_X12_isIn
  have e4 := (wl_n h1 h2 (k := 1) (by decide)).1
  simp only [e0, e4]
  rfl
theorem u13_0_0_0_b (d : Nat) (h1 : 4 ≤ d) (h2 : d < 2147483648) : good (op_13 0 0 0 d sI) = true := by
  have e0 := (wl_b h1 h2 (k := 0) (by decide)).1
  have e1 := (wl_b h1 h2 (k := 3) (by decide)).2.1
  have e2 := (wl_e h1 h2).1
  have e3 := (wl_b h1 h2 (k := 3) (by decide)).2.2.1
  have e4 := (wl_b h1 h2 (k := 1) (by decide)).1
  unfold op_13 f_L_alike f_X9_alike f_X12_alike f_X9_needStatistic f_X12_isNoStatistic f_X12_isIn
  simp only [e0, e1, e2, e3, e4]
  rfl
theorem u13_0_0_1_n (d : Nat) (h1 : 2147483648 ≤ d) (h2 : d < 4294967296) : good (op_13 0 1 0 d sI) = true := by
  have e0 := (wl_n h1 h2 (k := 0) (by decide)).1
  unfold op_13 f_L_alike f_X9_alike f_X12_alike f_X9_needStatistic f_X12_isNoStatistic f_X12_isIn
  have e4 := (wl_n h1 h2 (k := 1) (by decide)).1
  simp only [e0, e4]
  rfl
theorem u13_0_0_1_b (d : Nat) (h1 : 4 ≤ d) (h2 : d < 2147483648) : good (op_13 0 1 0 d sI) = true := by
  have e0 := (wl_b h1 h2 (k := 0) (by decide)).1
  have e1 := (wl_b h1 h2 (k := 3) (by decide)).2.1
  have e2 := (wl_e h1 h2).1
  have e3 := (wl_b h1 h2 (k := 3) (by decide)).2.2.1
  have e4 := (wl_b h1 h2 (k := 1) (by decide)).1
  unfold op_13 f_L_alike f_X9_alike f_X12_alike f_X9_needStatistic f_X12_isNoStatistic f_X12_isIn
  simp only [e0, e1, e2, e3, e4]
  rfl
theorem u13_0_0_2_n (d : Nat) (h1 : 2147483648 ≤ d) (h2 : d < 4294967296) : good (op_13 0 2 0 d sI) = true := by
  have e0 := (wl_n h1 h2 (k := 0) (by decide)).1
  unfold op_13 f_L_alike f_X9_alike f_X12_alike f_X9_needStatistic f_X12_isNoStatistic f_X12_isIn
  have e4 := (wl_n h1 h2 (k := 1) (by decide)).1
  simp only [e0, e4]
  rfl
theorem u13_0_0_2_b (d : Nat) (h1 : 4 ≤ d) (h2 : d < 2147483648) : good (op_13 0 2 0 d sI) = true := by
  have e0 := (wl_b h1 h2 (k := 0) (by decide)).1
  have e1 := (wl_b h1 h2 (k := 3) (by decide)).2.1
  have e2 := (wl_e h1 h2).1
  have e3 := (wl_b h1 h2 (k := 3) (by decide)).2.2.1
  have e4 := (wl_b h1 h2 (k := 1) (by decide)).1
  unfold op_13 f_L_alike f_X9_alike f_X12_alike f_X9_needStatistic f_X12_isNoStatistic f_X12_isIn
  simp only [e0, e1, e2, e3, e4]
  rfl
theorem u13_0_0_3_n (d : Nat) (h1 : 2147483648 ≤ d) (h2 : d < 4294967296) : good (op_13 0 3 0 d sI) = true := by
  have e0 := (wl_n h1 h2 (k := 0) (by decide)).1
  unfold op_13 f_L_alike f_X9_alike f_X12_alike f_X9_needStatistic f_X12_isNoStatistic f_X12_isIn
  have e4 := (wl_n h1 h2 (k := 1) (by decide)).1
  simp only [e0, e4]
  rfl
theorem u13_0_0_3_b (d : Nat) (h1 : 4 ≤ d) (h2 : d < 2147483648) : good (op_13 0 3 0 d sI) = true := by
  have e0 := (wl_b h1 h2 (k := 0) (by decide)).1
  have e1 := (wl_b h1 h2 (k := 3) (by decide)).2.1
  have e2 := (wl_e h1 h2).1
  have e3 := (wl_b h1 h2 (k := 3) (by decide)).2.2.1
  have e4 := (wl_b h1 h2 (k := 1) (by decide)).1
  unfold op_13 f_L_alike f_X9_alike f_X12_alike f_X9_needStatistic f_X12_isNoStatistic f_X12_isIn
  simp only [e0, e1, e2, e3, e4]
  rfl
theorem u13_0_1_n (b : Nat) (d : Nat) (h1 : 2147483648 ≤ b) (h2 : b < 4294967296) : good (op_13 0 b 1 d sI) = true := by
  have e0 := (wl_n h1 h2 (k := 0) (by decide)).1
  unfold op_13 f_L_alike f_X9_alike f_X12_alike f_X9_needStatistic f_X12_isNoStatistic f_X12_isIn
  have e4 := (wl_n h1 h2 (k := 1) (by decide)).1
  simp only [e0, e4]
  rfl
theorem u13_0_1_b (b : Nat) (d : Nat) (h1 : 4 ≤ b) (h2 : b < 2147483648) : good (op_13 0 b 1 d sI) = true := by
  have e0 := (wl_b h1 h2 (k := 0) (by decide)).1
  have e1 := (wl_b h1 h2 (k := 3) (by decide)).2.1
  have e2 := (wl_e h1 h2).1
  have e3 := (wl_b h1 h2 (k := 3) (by decide)).2.2.1
  have e4 := (wl_b h1 h2 (k := 1) (by decide)).1
  unfold op_13 f_L_alike f_X9_alike f_X12_alike f_X9_needStatistic f_X12_isNoStatistic f_X12_isIn
  simp only [e0, e1, e2, e3, e4]
  rfl
theorem u13_0_1_0_n (d : Nat) (h1 : 2147483648 ≤ d) (h2 : d < 4294967296) : good (op_13 0 0 1 d sI) = true := by
  have e0 := (wl_n h1 h2 (k := 0) (by decide)).1
  unfold op_13 f_L_alike f_X9_alike f_X12_alike f_X9_needStatistic f_X12_isNoStatistic f_X12_isIn
  have e4 := (wl_n h1 h2 (k := 1) (by decide)).1
  simp only [e0, e4]
  rfl
theorem u13_0_1_0_b (d : Nat) (h1 : 4 ≤ d) (h2 : d < 2147483648) : good (op_13 0 0 1 d sI) = true := by
  have e0 := (wl_b h1 h2 (k := 0) (by decide)).1
  have e1 := (wl_b h1 h2 (k := 3) (by decide)).2.1
  have e2 := (wl_e h1 h2).1
  have e3 := (wl_b h1 h2 (k := 3) (by decide)).2.2.1
  have e4 := (wl_b h1 h2 (k := 1) (by decide)).1
  unfold op_13 f_L_alike f_X9_alike f_X12_alike f_X9_needStatistic f_X12_isNoStatistic f_X12_isIn
  simp only [e0, e1, e2, e3, e4]
  rfl
theorem u13_0_1_1_n (d : Nat) (h1 : 2147483648 ≤ d) (h2 : d < 4294967296) : good (op_13 0 1 1 d sI) = true := by
  have e0 := (wl_n h1 h2 (k := 0) (by decide)).1
  unfold op_13 f_L_alike f_X9_alike f_X12_alike f_X9_needStatistic f_X12_isNoStatistic f_X12_isIn
  have e4 := (wl_n h1 h2 (k := 1) (by decide)).1
  simp only [e0, e4]
  rfl
theorem u13_0_1_1_b (d : Nat) (h1 : 4 ≤ d) (h2 : d < 2147483648) : good (op_13 0 1 1 d sI) = true := by
  have e0 := (wl_b h1 h2 (k := 0) (by decide)).1
  have e1 := (wl_b h1 h2 (k := 3) (by decide)).2.1
  have e2 := (wl_e h1 h2).1
  have e3 := (wl_b h1 h2 (k := 3) (by decide)).2.2.1
  have e4 := (wl_b h1 h2 (k := 1) (by decide)).1
  unfold op_13 f_L_alike f_X9_alike f_X12_alike f_X9_needStatistic f_X12_isNoStatistic f_X12_isIn
  simp only [e0, e1, e2, e3, e4]
  rfl
theorem u13_0_1_2_n (d : Nat) (h1 : 2147483648 ≤ d) (h2 : d < 4294967296) : good (op_13 0 2 1 d sI) = true := by
  have e0 := (wl_n h1 h2 (k := 0) (by decide)).1
  unfold op_13 f_L_alike f_X9_alike f_X12_alike f_X9_needStatistic f_X12_isNoStatistic f_X12_isIn
  have e4 := (wl_n h1 h2 (k := 1) (by decide)).1
  simp only [e0, e4]
  rfl
theorem u13_0_1_2_b (d : Nat) (h1 : 4 ≤ d) (h2 : d < 2147483648) : good (op_13 0 2 1 d sI) = true := by
  have e0 := (wl_b h1 h2 (k := 0) (by decide)).1
  have e1 := (wl_b h1 h2 (k := 3) (by decide)).2.1
  have e2 := (wl_e h1 h2).1
  have e3 := (wl_b h1 h2 (k := 3) (by decide)).2.2.1
  have e4 := (wl_b h1 h2 (k := 1) (by decide)).1
  unfold op_13 f_L_alike f_X9_alike f_X12_alike f_X9_needStatistic f_X12_isNoStatistic f_X12_isIn
  simp only [e0, e1, e2, e3, e4]
  rfl
theorem u13_0_1_3_n (d : Nat) (h1 : 2147483648 ≤ d) (h2 : d < 4294967296) : good (op_13 0 3 1 d sI) = true := by
  have e0 := (wl_n h1 h2 (k := 0) (by decide)).1
  unfold op_13 f_L_alike f_X9_alike f_X12_alike f_X9_needStatistic f_X12_isNoStatistic f_X12_isIn
  have e4 := (wl_n h1 h2 (k := 1) (by decide)).1
  simp only [e0, e4]
  rfl
theorem u13_0_1_3_b (d : Nat) (h1 : 4 ≤ d) (h2 : d < 2147483648) : good (op_13 0 3 1 d sI) = true := by
  have e0 := (wl_b h1 h2 (k := 0) (by decide)).1
  have e1 := (wl_b h1 h2 (k := 3) (by decide)).2.1
  have e2 := (wl_e h1 h2).1
  have e3 := (wl_b h1 h2 (k := 3) (by decide)).2.2.1
  have e4 := (wl_b h1 h2 (k := 1) (by decide)).1
  unfold op_13 f_L_alike f_X9_alike f_X12_alike f_X9_needStatistic f_X12_isNoStatistic f_X12_isIn
  simp only [e0, e1, e2, e3, e4]
  rfl
theorem u13_0_2_n (b : Nat) (d : Nat) (h1 : 2147483648 ≤ b) (h2 : b < 4294967296) : good (op_13 0 b 2 d sI) = true := by
  have e0 := (wl_n h1 h2 (k := 0) (by decide)).1
  unfold op_13 f_L_alike f_X9_alike f_X12_alike f_X9_needStatistic f_X12_isNoStatistic f_X12_isIn
  have e4 := (wl_n h1 h2 (k := 1) (by decide)).1
  simp only [e0, e4]
  rfl
theorem u13_0_2_b (b : Nat) (d : Nat) (h1 : 4 ≤ b) (h2 : b < 2147483648) : good (op_13 0 b 2 d sI) = true := by
  have e0 := (wl_b h1 h2 (k := 0) (by decide)).1
  have e1 := (wl_b h1 h2 (k := 3) (by decide)).2.1
  have e2 := (wl_e h1 h2).1
  have e3 := (wl_b h1 h2 (k := 3) (by decide)).2.2.1
  have e4 := (wl_b h1 h2 (k := 1) (by decide)).1
  unfold op_13 f_L_alike f_X9_alike f_X12_alike f_X9_needStatistic f_X12_isNoStatistic f_X12_isIn
  simp only [e0, e1, e2, e3, e4]
  rfl
theorem u13_0_2_0_n (d : Nat) (h1 : 2147483648 ≤ d) (h2 : d < 4294967296) : good (op_13 0 0 2 d sI) = true := by
  have e0 := (wl_n h1 h2 (k := 0) (by decide)).1
  unfold op_13 f_L_alike f_X9_alike f_X12_alike f_X9_needStatistic f_X12_isNoStatistic f_X12_isIn
  have e4 := (wl_n h1 h2 (k := 1) (by decide)).1
  simp only [e0, e4]
  rfl
theorem u13_0_2_0_b (d : Nat) (h1 : 4 ≤ d) (h2 : d < 2147483648) : good (op_13 0 0 2 d sI) = true := by
  have e0 := (wl_b h1 h2 (k := 0) (by decide)).1
  have e1 := (wl_b h1 h2 (k := 3) (by decide)).2.1
  have e2 := (wl_e h1 h2).1
  have e3 := (wl_b h1 h2 (k := 3) (by decide)).2.2.1
  have e4 := (wl_b h1 h2 (k := 1) (by decide)).1
  unfold op_13 f_L_alike f_X9_alike f_X12_alike f_X9_needStatistic f_X12_isNoStatistic f_X12_isIn
  simp only [e0, e1, e2, e3, e4]
  rfl
theorem u13_0_2_1_n (d : Nat) (h1 : 2147483648 ≤ d) (h2 : d < 4294967296) : good (op_13 0 1 2 d sI) = true := by
  have e0 := (wl_n h1 h2 (k := 0) (by decide)).1
  unfold op_13 f_L_alike f_X9_alike f_X12_alike f_X9_needStatistic f_X12_isNoStatistic f_X12_isIn
  have e4 := (wl_n h1 h2 (k := 1) (by decide)).1
  simp only [e0, e4]
  rfl
theorem u13_0_2_1_b (d : Nat) (h1 : 4 ≤ d) (h2 : d < 2147483648) : good (op_13 0 1 2 d sI) = true := by
  have e0 := (wl_b h1 h2 (k := 0) (by decide)).1
  have e1 := (wl_b h1 h2 (k := 3) (by decide)).2.1
  have e2 := (wl_e h1 h2).1
  have e3 := (wl_b h1 h2 (k := 3) (by decide)).2.2.1
  have e4 := (wl_b h1 h2 (k := 1) (by decide)).1
  unfold op_13 f_L_alike f_X9_alike f_X12_alike f_X9_needStatistic f_X12_isNoStatistic f_X12_isIn
  simp only [e0, e1, e2, e3, e4]
  rfl
theorem u13_0_2_2_n (d : Nat) (h1 : 2147483648 ≤ d) (h2 : d < 4294967296) : good (op_13 0 2 2 d sI) = true := by
  have e0 := (wl_n h1 h2 (k := 0) (by decide)).1
  unfold op_13 f_L_alike f_X9_alike f_X12_alike f_X9_needStatistic f_X12_isNoStatistic f_X12_isIn
  have e4 := (wl_n h1 h2 (k := 1) (by decide)).1
  simp only [e0, e4]
  rfl
theorem u13_0_2_2_b (d : Nat) (h1 : 4 ≤ d) (h2 : d < 2147483648) : good (op_13 0 2 2 d sI) = true := by
  have e0 := (wl_b h1 h2 (k := 0) (by decide)).1
  have e1 := (wl_b h1 h2 (k := 3) (by decide)).2.1
  have e2 := (wl_e h1 h2).1
  have e3 := (wl_b h1 h2 (k := 3) (by decide)).2.2.1
  have e4 := (wl_b h1 h2 (k := 1) (by decide)).1
  unfold op_13 f_L_alike f_X9_alike f_X12_alike f_X9_needStatistic f_X12_isNoStatistic f_X12_isIn
  simp only [e0, e1, e2, e3, e4]
  rfl
theorem u13_0_2_3_n (d : Nat) (h1 : 2147483648 ≤ d) (h2 : d < 4294967296) : good (op_13 0 3 2 d sI) = true := by
  have e0 := (wl_n h1 h2 (k := 0) (by decide)).1
  unfold op_13 f_L_alike f_X9_alike f_X12_alike f_X9_needStatistic f_X12_isNoStatistic f_X12_isIn
  have e4 := (wl_n h1 h2 (k := 1) (by decide)).1
  simp only [e0, e4]
  rfl
theorem u13_0_2_3_b (d : Nat) (h1 : 4 ≤ d) (h2 : d < 2147483648) : good (op_13 0 3 2 d sI) = true := by
  have e0 := (wl_b h1 h2 (k := 0) (by decide)).1
  have e1 := (wl_b h1 h2 (k := 3) (by decide)).2.1
  have e2 := (wl_e h1 h2).1
  have e3 := (wl_b h1 h2 (k := 3) (by decide)).2.2.1
  have e4 := (wl_b h1 h2 (k := 1) (by decide)).1
  unfold op_13 f_L_alike f_X9_alike f_X12_alike f_X9_needStatistic f_X12_isNoStatistic f_X12_isIn
  simp only [e0, e1, e2, e3, e4]
  rfl
theorem u12_1_n (b : Nat) (c : Nat) (d : Nat) (h1 : 2147483648 ≤ b) (h2 : b < 4294967296) : good (op_12 1 b c d sI) = true := by
  have e0 := (wl_n h1 h2 (k := 0) (by decide)).1
  unfold op_12 f_L_signs f_X9_signs f_X12_signs f_X9_needStatistic f_X12_isNoStatistic f_X12_isIn
  have e4 := (wl_n h1 h2 (k := 1) (by decide)).1
  simp only [e0, e4]
  rfl
theorem u12_1_b (b : Nat) (c : Nat) (d : Nat) (h1 : 4 ≤ b) (h2 : b < 2147483648) : good (op_12 1 b c d sI) = true := by
  have e0 := (wl_b h1 h2 (k := 0) (by decide)).1
  have e1 := (wl_b h1 h2 (k := 3) (by decide)).2.1
  have e2 := (wl_e h1 h2).1
  have e3 := (wl_b h1 h2 (k := 3) (by decide)).2.2.1
  have e4 := (wl_b h1 h2 (k := 1) (by decide)).1
  unfold op_12 f_L_signs f_X9_signs f_X12_signs f_X9_needStatistic f_X12_isNoStatistic f_X12_isIn
  simp only [e0, e1, e2, e3, e4]
  rfl
theorem u26_1_n (b : Nat) (c : Nat) (d : Nat) (h1 : 2147483648 ≤ b) (h2 : b < 4294967296) : good (op_26 1 b c d sI) = true := by
  have e0 := (wl_n h1 h2 (k := 0) (by decide)).1
  unfold op_26 f_L_mean f_X9_mean f_X12_mean f_X9_needStatistic f_X12_isNoStatistic f_X12_isIn
  have e4 := (wl_n h1 h2 (k := 1) (by decide)).1
  simp only [e0, e4]
  rfl
theorem u26_1_b (b : Nat) (c : Nat) (d : Nat) (h1 : 4 ≤ b) (h2 : b < 2147483648) : good (op_26 1 b c d sI) = true := by
  have e0 := (wl_b h1 h2 (k := 0) (by decide)).1
  have e1 := (wl_b h1 h2 (k := 3) (by decide)).2.1
  have e2 := (wl_e h1 h2).1
  have e3 := (wl_b h1 h2 (k := 3) (by decide)).2.2.1
  have e4 := (wl_b h1 h2 (k := 1) (by decide)).1
  unfold op_26 f_L_mean f_X9_mean f_X12_mean f_X9_needStatistic f_X12_isNoStatistic f_X12_isIn
  simp only [e0, e1, e2, e3, e4]
  rfl
theorem u11_1_n (b : Nat) (c : Nat) (d : Nat) (h1 : 2147483648 ≤ b) (h2 : b < 4294967296) : good (op_11 1 b c d sI) = true := by
  have e0 := (wl_n h1 h2 (k := 0) (by decide)).1
  unfold op_11 f_L_spread f_X9_spread f_X12_spread f_X9_needStatistic f_X12_isNoStatistic f_X12_isIn
  have e4 := (wl_n h1 h2 (k := 1) (by decide)).1
  simp only [e0, e4]
  rfl
theorem u11_1_b (b : Nat) (c : Nat) (d : Nat) (h1 : 4 ≤ b) (h2 : b < 2147483648) : good (op_11 1 b c d sI) = true := by
  have e0 := (wl_b h1 h2 (k := 0) (by decide)).1
  have e1 := (wl_b h1 h2 (k := 3) (by decide)).2.1
  have e2 := (wl_e h1 h2).1
  have e3 := (wl_b h1 h2 (k := 3) (by decide)).2.2.1
  have e4 := (wl_b h1 h2 (k := 1) (by decide)).1
  unfold op_11 f_L_spread f_X9_spread f_X12_spread f_X9_needStatistic f_X12_isNoStatistic f_X12_isIn
  simp only [e0, e1, e2, e3, e4]
  rfl
theorem u10_1_0_n (b : Nat) (d : Nat) (h1 : 2147483648 ≤ b) (h2 : b < 4294967296) : good (op_10 1 b 0 d sI) = true := by
  have e0 := (wl_n h1 h2 (k := 0) (by decide)).1
  unfold op_10 f_L_statistic f_X9_statistic f_X12_statistic f_X9_needStatistic f_X12_isNoStatistic f_X12_isIn
  have e4 := (wl_n h1 h2 (k := 1) (by decide)).1
  simp only [e0, e4]
  rfl
theorem u10_1_0_b (b : Nat) (d : Nat) (h1 : 4 ≤ b) (h2 : b < 2147483648) : good (op_10 1 b 0 d sI) = true := by
  have e0 := (wl_b h1 h2 (k := 0) (by decide)).1
  have e1 := (wl_b h1 h2 (k := 3) (by decide)).2.1
  have e2 := (wl_e h1 h2).1
  have e3 := (wl_b h1 h2 (k := 3) (by decide)).2.2.1
  have e4 := (wl_b h1 h2 (k := 1) (by decide)).1
  unfold op_10 f_L_statistic f_X9_statistic f_X12_statistic f_X9_needStatistic f_X12_isNoStatistic f_X12_isIn
  simp only [e0, e1, e2, e3, e4]
  rfl
theorem u10_1_1_n (b : Nat) (d : Nat) (h1 : 2147483648 ≤ b) (h2 : b < 4294967296) : good (op_10 1 b 1 d sI) = true := by
  have e0 := (wl_n h1 h2 (k := 0) (by decide)).1
  unfold op_10 f_L_statistic f_X9_statistic f_X12_statistic f_X9_needStatistic f_X12_isNoStatistic f_X12_isIn
  have e4 := (wl_n h1 h2 (k := 1) (by decide)).1
  simp only [e0, e4]
  rfl
theorem u10_1_1_b (b : Nat) (d : Nat) (h1 : 4 ≤ b) (h2 : b < 2147483648) : good (op_10 1 b 1 d sI) = true := by
  have e0 := (wl_b h1 h2 (k := 0) (by decide)).1
  have e1 := (wl_b h1 h2 (k := 3) (by decide)).2.1
  have e2 := (wl_e h1 h2).1
  have e3 := (wl_b h1 h2 (k := 3) (by decide)).2.2.1
  have e4 := (wl_b h1 h2 (k := 1) (by decide)).1
  unfold op_10 f_L_statistic f_X9_statistic f_X12_statistic f_X9_needStatistic f_X12_isNoStatistic f_X12_isIn
  simp only [e0, e1, e2, e3, e4]
  rfl
theorem u10_1_2_n (b : Nat) (d : Nat) (h1 : 2147483648 ≤ b) (h2 : b < 4294967296) : good (op_10 1 b 2 d sI) = true := by
  have e0 := (wl_n h1 h2 (k := 0) (by decide)).1
  unfold op_10 f_L_statistic f_X9_statistic f_X12_statistic f_X9_needStatistic f_X12_isNoStatistic f_X12_isIn
  have e4 := (wl_n h1 h2 (k := 1) (by decide)).1
  simp only [e0, e4]
  rfl
theorem u10_1_2_b (b : Nat) (d : Nat) (h1 : 4 ≤ b) (h2 : b < 2147483648) : good (op_10 1 b 2 d sI) = true := by
  have e0 := (wl_b h1 h2 (k := 0) (by decide)).1
  have e1 := (wl_b h1 h2 (k := 3) (by decide)).2.1
  have e2 := (wl_e h1 h2).1
  have e3 := (wl_b h1 h2 (k := 3) (by decide)).2.2.1
  have e4 := (wl_b h1 h2 (k := 1) (by decide)).1
  unfold op_10 f_L_statistic f_X9_statistic f_X12_statistic f_X9_needStatistic f_X12_isNoStatistic f_X12_isIn
  simp only [e0, e1, e2, e3, e4]
  rfl
theorem u10_1_3_n (b : Nat) (d : Nat) (h1 : 2147483648 ≤ b) (h2 : b < 4294967296) : good (op_10 1 b 3 d sI) = true := by
  have e0 := (wl_n h1 h2 (k := 0) (by decide)).1
  unfold op_10 f_L_statistic f_X9_statistic f_X12_statistic f_X9_needStatistic f_X12_isNoStatistic f_X12_isIn
  have e4 := (wl_n h1 h2 (k := 1) (by decide)).1
  simp only [e0, e4]
  rfl
theorem u10_1_3_b (b : Nat) (d : Nat) (h1 : 4 ≤ b) (h2 : b < 2147483648) : good (op_10 1 b 3 d sI) = true := by
  have e0 := (wl_b h1 h2 (k := 0) (by decide)).1
  have e1 := (wl_b h1 h2 (k := 3) (by decide)).2.1
  have e2 := (wl_e h1 h2).1
  have e3 := (wl_b h1 h2 (k := 3) (by decide)).2.2.1
  have e4 := (wl_b h1 h2 (k := 1) (by decide)).1
  unfold op_10 f_L_statistic f_X9_statistic f_X12_statistic f_X9_needStatistic f_X12_isNoStatistic f_X12_isIn
  simp only [e0, e1, e2, e3, e4]
  rfl
theorem u10_1_4_n (b : Nat) (d : Nat) (h1 : 2147483648 ≤ b) (h2 : b < 4294967296) : good (op_10 1 b 4 d sI) = true := by
  have e0 := (wl_n h1 h2 (k := 0) (by decide)).1
  unfold op_10 f_L_statistic f_X9_statistic f_X12_statistic f_X9_needStatistic f_X12_isNoStatistic f_X12_isIn
  have e4 := (wl_n h1 h2 (k := 1) (by decide)).1
  simp only [e0, e4]
  rfl
theorem u10_1_4_b (b : Nat) (d : Nat) (h1 : 4 ≤ b) (h2 : b < 2147483648) : good (op_10 1 b 4 d sI) = true := by
  have e0 := (wl_b h1 h2 (k := 0) (by decide)).1
  have e1 := (wl_b h1 h2 (k := 3) (by decide)).2.1
  have e2 := (wl_e h1 h2).1
  have e3 := (wl_b h1 h2 (k := 3) (by decide)).2.2.1
  have e4 := (wl_b h1 h2 (k := 1) (by decide)).1
  unfold op_10 f_L_statistic f_X9_statistic f_X12_statistic f_X9_needStatistic f_X12_isNoStatistic f_X12_isIn
  simp only [e0, e1, e2, e3, e4]
  rfl
theorem u13_1_n (b : Nat) (c : Nat) (d : Nat) (h1 : 2147483648 ≤ c) (h2 : c < 4294967296) : good (op_13 1 b c d sI) = true := by
  have e0 := (wl_n h1 h2 (k := 0) (by decide)).1
  unfold op_13 f_L_alike f_X9_alike f_X12_alike f_X9_needFamily f_X12_isNoFamily f_X12_isIn
  have e4 := (wl_n h1 h2 (k := 1) (by decide)).1
  simp only [e0, e4]
  rfl
theorem u13_1_b (b : Nat) (c : Nat) (d : Nat) (h1 : 3 ≤ c) (h2 : c < 2147483648) : good (op_13 1 b c d sI) = true := by
  have e0 := (wl_b h1 h2 (k := 0) (by decide)).1
  have e1 := (wl_b h1 h2 (k := 2) (by decide)).2.1
  have e2 := (wl_e h1 h2).1
  have e3 := (wl_b h1 h2 (k := 2) (by decide)).2.2.1
  have e4 := (wl_b h1 h2 (k := 1) (by decide)).1
  unfold op_13 f_L_alike f_X9_alike f_X12_alike f_X9_needFamily f_X12_isNoFamily f_X12_isIn
  simp only [e0, e1, e2, e3, e4]
  rfl
theorem u13_1_0_n (b : Nat) (d : Nat) (h1 : 2147483648 ≤ b) (h2 : b < 4294967296) : good (op_13 1 b 0 d sI) = true := by
  have e0 := (wl_n h1 h2 (k := 0) (by decide)).1
  unfold op_13 f_L_alike f_X9_alike f_X12_alike f_X9_needStatistic f_X12_isNoStatistic f_X12_isIn
  have e4 := (wl_n h1 h2 (k := 1) (by decide)).1
  simp only [e0, e4]
  rfl
theorem u13_1_0_b (b : Nat) (d : Nat) (h1 : 4 ≤ b) (h2 : b < 2147483648) : good (op_13 1 b 0 d sI) = true := by
  have e0 := (wl_b h1 h2 (k := 0) (by decide)).1
  have e1 := (wl_b h1 h2 (k := 3) (by decide)).2.1
  have e2 := (wl_e h1 h2).1
  have e3 := (wl_b h1 h2 (k := 3) (by decide)).2.2.1
  have e4 := (wl_b h1 h2 (k := 1) (by decide)).1
  unfold op_13 f_L_alike f_X9_alike f_X12_alike f_X9_needStatistic f_X12_isNoStatistic f_X12_isIn
  simp only [e0, e1, e2, e3, e4]
  rfl
theorem u13_1_0_0_n (d : Nat) (h1 : 2147483648 ≤ d) (h2 : d < 4294967296) : good (op_13 1 0 0 d sI) = true := by
  have e0 := (wl_n h1 h2 (k := 0) (by decide)).1
  unfold op_13 f_L_alike f_X9_alike f_X12_alike f_X9_needStatistic f_X12_isNoStatistic f_X12_isIn
  have e4 := (wl_n h1 h2 (k := 1) (by decide)).1
  simp only [e0, e4]
  rfl
theorem u13_1_0_0_b (d : Nat) (h1 : 4 ≤ d) (h2 : d < 2147483648) : good (op_13 1 0 0 d sI) = true := by
  have e0 := (wl_b h1 h2 (k := 0) (by decide)).1
  have e1 := (wl_b h1 h2 (k := 3) (by decide)).2.1
  have e2 := (wl_e h1 h2).1
  have e3 := (wl_b h1 h2 (k := 3) (by decide)).2.2.1
  have e4 := (wl_b h1 h2 (k := 1) (by decide)).1
  unfold op_13 f_L_alike f_X9_alike f_X12_alike f_X9_needStatistic f_X12_isNoStatistic f_X12_isIn
  simp only [e0, e1, e2, e3, e4]
  rfl
theorem u13_1_0_1_n (d : Nat) (h1 : 2147483648 ≤ d) (h2 : d < 4294967296) : good (op_13 1 1 0 d sI) = true := by
  have e0 := (wl_n h1 h2 (k := 0) (by decide)).1
  unfold op_13 f_L_alike f_X9_alike f_X12_alike f_X9_needStatistic f_X12_isNoStatistic f_X12_isIn
  have e4 := (wl_n h1 h2 (k := 1) (by decide)).1
  simp only [e0, e4]
  rfl
theorem u13_1_0_1_b (d : Nat) (h1 : 4 ≤ d) (h2 : d < 2147483648) : good (op_13 1 1 0 d sI) = true := by
  have e0 := (wl_b h1 h2 (k := 0) (by decide)).1
  have e1 := (wl_b h1 h2 (k := 3) (by decide)).2.1
  have e2 := (wl_e h1 h2).1
  have e3 := (wl_b h1 h2 (k := 3) (by decide)).2.2.1
  have e4 := (wl_b h1 h2 (k := 1) (by decide)).1
  unfold op_13 f_L_alike f_X9_alike f_X12_alike f_X9_needStatistic f_X12_isNoStatistic f_X12_isIn
  simp only [e0, e1, e2, e3, e4]
  rfl
theorem u13_1_0_2_n (d : Nat) (h1 : 2147483648 ≤ d) (h2 : d < 4294967296) : good (op_13 1 2 0 d sI) = true := by
  have e0 := (wl_n h1 h2 (k := 0) (by decide)).1
  unfold op_13 f_L_alike f_X9_alike f_X12_alike f_X9_needStatistic f_X12_isNoStatistic f_X12_isIn
  have e4 := (wl_n h1 h2 (k := 1) (by decide)).1
  simp only [e0, e4]
  rfl
theorem u13_1_0_2_b (d : Nat) (h1 : 4 ≤ d) (h2 : d < 2147483648) : good (op_13 1 2 0 d sI) = true := by
  have e0 := (wl_b h1 h2 (k := 0) (by decide)).1
  have e1 := (wl_b h1 h2 (k := 3) (by decide)).2.1
  have e2 := (wl_e h1 h2).1
  have e3 := (wl_b h1 h2 (k := 3) (by decide)).2.2.1
  have e4 := (wl_b h1 h2 (k := 1) (by decide)).1
  unfold op_13 f_L_alike f_X9_alike f_X12_alike f_X9_needStatistic f_X12_isNoStatistic f_X12_isIn
  simp only [e0, e1, e2, e3, e4]
  rfl
theorem u13_1_0_3_n (d : Nat) (h1 : 2147483648 ≤ d) (h2 : d < 4294967296) : good (op_13 1 3 0 d sI) = true := by
  have e0 := (wl_n h1 h2 (k := 0) (by decide)).1
  unfold op_13 f_L_alike f_X9_alike f_X12_alike f_X9_needStatistic f_X12_isNoStatistic f_X12_isIn
  have e4 := (wl_n h1 h2 (k := 1) (by decide)).1
  simp only [e0, e4]
  rfl
theorem u13_1_0_3_b (d : Nat) (h1 : 4 ≤ d) (h2 : d < 2147483648) : good (op_13 1 3 0 d sI) = true := by
  have e0 := (wl_b h1 h2 (k := 0) (by decide)).1
  have e1 := (wl_b h1 h2 (k := 3) (by decide)).2.1
  have e2 := (wl_e h1 h2).1
  have e3 := (wl_b h1 h2 (k := 3) (by decide)).2.2.1
  have e4 := (wl_b h1 h2 (k := 1) (by decide)).1
  unfold op_13 f_L_alike f_X9_alike f_X12_alike f_X9_needStatistic f_X12_isNoStatistic f_X12_isIn
  simp only [e0, e1, e2, e3, e4]
  rfl
theorem u13_1_1_n (b : Nat) (d : Nat) (h1 : 2147483648 ≤ b) (h2 : b < 4294967296) : good (op_13 1 b 1 d sI) = true := by
  have e0 := (wl_n h1 h2 (k := 0) (by decide)).1
  unfold op_13 f_L_alike f_X9_alike f_X12_alike f_X9_needStatistic f_X12_isNoStatistic f_X12_isIn
  have e4 := (wl_n h1 h2 (k := 1) (by decide)).1
  simp only [e0, e4]
  rfl
theorem u13_1_1_b (b : Nat) (d : Nat) (h1 : 4 ≤ b) (h2 : b < 2147483648) : good (op_13 1 b 1 d sI) = true := by
  have e0 := (wl_b h1 h2 (k := 0) (by decide)).1
  have e1 := (wl_b h1 h2 (k := 3) (by decide)).2.1
  have e2 := (wl_e h1 h2).1
  have e3 := (wl_b h1 h2 (k := 3) (by decide)).2.2.1
  have e4 := (wl_b h1 h2 (k := 1) (by decide)).1
  unfold op_13 f_L_alike f_X9_alike f_X12_alike f_X9_needStatistic f_X12_isNoStatistic f_X12_isIn
  simp only [e0, e1, e2, e3, e4]
  rfl
theorem u13_1_1_0_n (d : Nat) (h1 : 2147483648 ≤ d) (h2 : d < 4294967296) : good (op_13 1 0 1 d sI) = true := by
  have e0 := (wl_n h1 h2 (k := 0) (by decide)).1
  unfold op_13 f_L_alike f_X9_alike f_X12_alike f_X9_needStatistic f_X12_isNoStatistic f_X12_isIn
  have e4 := (wl_n h1 h2 (k := 1) (by decide)).1
  simp only [e0, e4]
  rfl
theorem u13_1_1_0_b (d : Nat) (h1 : 4 ≤ d) (h2 : d < 2147483648) : good (op_13 1 0 1 d sI) = true := by
  have e0 := (wl_b h1 h2 (k := 0) (by decide)).1
  have e1 := (wl_b h1 h2 (k := 3) (by decide)).2.1
  have e2 := (wl_e h1 h2).1
  have e3 := (wl_b h1 h2 (k := 3) (by decide)).2.2.1
  have e4 := (wl_b h1 h2 (k := 1) (by decide)).1
  unfold op_13 f_L_alike f_X9_alike f_X12_alike f_X9_needStatistic f_X12_isNoStatistic f_X12_isIn
  simp only [e0, e1, e2, e3, e4]
  rfl
theorem u13_1_1_1_n (d : Nat) (h1 : 2147483648 ≤ d) (h2 : d < 4294967296) : good (op_13 1 1 1 d sI) = true := by
  have e0 := (wl_n h1 h2 (k := 0) (by decide)).1
  unfold op_13 f_L_alike f_X9_alike f_X12_alike f_X9_needStatistic f_X12_isNoStatistic f_X12_isIn
  have e4 := (wl_n h1 h2 (k := 1) (by decide)).1
  simp only [e0, e4]
  rfl
theorem u13_1_1_1_b (d : Nat) (h1 : 4 ≤ d) (h2 : d < 2147483648) : good (op_13 1 1 1 d sI) = true := by
  have e0 := (wl_b h1 h2 (k := 0) (by decide)).1
  have e1 := (wl_b h1 h2 (k := 3) (by decide)).2.1
  have e2 := (wl_e h1 h2).1
  have e3 := (wl_b h1 h2 (k := 3) (by decide)).2.2.1
  have e4 := (wl_b h1 h2 (k := 1) (by decide)).1
  unfold op_13 f_L_alike f_X9_alike f_X12_alike f_X9_needStatistic f_X12_isNoStatistic f_X12_isIn
  simp only [e0, e1, e2, e3, e4]
  rfl
theorem u13_1_1_2_n (d : Nat) (h1 : 2147483648 ≤ d) (h2 : d < 4294967296) : good (op_13 1 2 1 d sI) = true := by
  have e0 := (wl_n h1 h2 (k := 0) (by decide)).1
  unfold op_13 f_L_alike f_X9_alike f_X12_alike f_X9_needStatistic f_X12_isNoStatistic f_X12_isIn
  have e4 := (wl_n h1 h2 (k := 1) (by decide)).1
  simp only [e0, e4]
  rfl
theorem u13_1_1_2_b (d : Nat) (h1 : 4 ≤ d) (h2 : d < 2147483648) : good (op_13 1 2 1 d sI) = true := by
  have e0 := (wl_b h1 h2 (k := 0) (by decide)).1
  have e1 := (wl_b h1 h2 (k := 3) (by decide)).2.1
  have e2 := (wl_e h1 h2).1
  have e3 := (wl_b h1 h2 (k := 3) (by decide)).2.2.1
  have e4 := (wl_b h1 h2 (k := 1) (by decide)).1
  unfold op_13 f_L_alike f_X9_alike f_X12_alike f_X9_needStatistic f_X12_isNoStatistic f_X12_isIn
  simp only [e0, e1, e2, e3, e4]
  rfl
theorem u13_1_1_3_n (d : Nat) (h1 : 2147483648 ≤ d) (h2 : d < 4294967296) : good (op_13 1 3 1 d sI) = true := by
  have e0 := (wl_n h1 h2 (k := 0) (by decide)).1
  unfold op_13 f_L_alike f_X9_alike f_X12_alike f_X9_needStatistic f_X12_isNoStatistic f_X12_isIn
  have e4 := (wl_n h1 h2 (k := 1) (by decide)).1
  simp only [e0, e4]
  rfl
theorem u13_1_1_3_b (d : Nat) (h1 : 4 ≤ d) (h2 : d < 2147483648) : good (op_13 1 3 1 d sI) = true := by
  have e0 := (wl_b h1 h2 (k := 0) (by decide)).1
  have e1 := (wl_b h1 h2 (k := 3) (by decide)).2.1
  have e2 := (wl_e h1 h2).1
  have e3 := (wl_b h1 h2 (k := 3) (by decide)).2.2.1
  have e4 := (wl_b h1 h2 (k := 1) (by decide)).1
  unfold op_13 f_L_alike f_X9_alike f_X12_alike f_X9_needStatistic f_X12_isNoStatistic f_X12_isIn
  simp only [e0, e1, e2, e3, e4]
  rfl
theorem u13_1_2_n (b : Nat) (d : Nat) (h1 : 2147483648 ≤ b) (h2 : b < 4294967296) : good (op_13 1 b 2 d sI) = true := by
  have e0 := (wl_n h1 h2 (k := 0) (by decide)).1
  unfold op_13 f_L_alike f_X9_alike f_X12_alike f_X9_needStatistic f_X12_isNoStatistic f_X12_isIn
  have e4 := (wl_n h1 h2 (k := 1) (by decide)).1
  simp only [e0, e4]
  rfl
theorem u13_1_2_b (b : Nat) (d : Nat) (h1 : 4 ≤ b) (h2 : b < 2147483648) : good (op_13 1 b 2 d sI) = true := by
  have e0 := (wl_b h1 h2 (k := 0) (by decide)).1
  have e1 := (wl_b h1 h2 (k := 3) (by decide)).2.1
  have e2 := (wl_e h1 h2).1
  have e3 := (wl_b h1 h2 (k := 3) (by decide)).2.2.1
  have e4 := (wl_b h1 h2 (k := 1) (by decide)).1
  unfold op_13 f_L_alike f_X9_alike f_X12_alike f_X9_needStatistic f_X12_isNoStatistic f_X12_isIn
  simp only [e0, e1, e2, e3, e4]
  rfl
theorem u13_1_2_0_n (d : Nat) (h1 : 2147483648 ≤ d) (h2 : d < 4294967296) : good (op_13 1 0 2 d sI) = true := by
  have e0 := (wl_n h1 h2 (k := 0) (by decide)).1
  unfold op_13 f_L_alike f_X9_alike f_X12_alike f_X9_needStatistic f_X12_isNoStatistic f_X12_isIn
  have e4 := (wl_n h1 h2 (k := 1) (by decide)).1
  simp only [e0, e4]
  rfl
theorem u13_1_2_0_b (d : Nat) (h1 : 4 ≤ d) (h2 : d < 2147483648) : good (op_13 1 0 2 d sI) = true := by
  have e0 := (wl_b h1 h2 (k := 0) (by decide)).1
  have e1 := (wl_b h1 h2 (k := 3) (by decide)).2.1
  have e2 := (wl_e h1 h2).1
  have e3 := (wl_b h1 h2 (k := 3) (by decide)).2.2.1
  have e4 := (wl_b h1 h2 (k := 1) (by decide)).1
  unfold op_13 f_L_alike f_X9_alike f_X12_alike f_X9_needStatistic f_X12_isNoStatistic f_X12_isIn
  simp only [e0, e1, e2, e3, e4]
  rfl
theorem u13_1_2_1_n (d : Nat) (h1 : 2147483648 ≤ d) (h2 : d < 4294967296) : good (op_13 1 1 2 d sI) = true := by
  have e0 := (wl_n h1 h2 (k := 0) (by decide)).1
  unfold op_13 f_L_alike f_X9_alike f_X12_alike f_X9_needStatistic f_X12_isNoStatistic f_X12_isIn
  have e4 := (wl_n h1 h2 (k := 1) (by decide)).1
  simp only [e0, e4]
  rfl
theorem u13_1_2_1_b (d : Nat) (h1 : 4 ≤ d) (h2 : d < 2147483648) : good (op_13 1 1 2 d sI) = true := by
  have e0 := (wl_b h1 h2 (k := 0) (by decide)).1
  have e1 := (wl_b h1 h2 (k := 3) (by decide)).2.1
  have e2 := (wl_e h1 h2).1
  have e3 := (wl_b h1 h2 (k := 3) (by decide)).2.2.1
  have e4 := (wl_b h1 h2 (k := 1) (by decide)).1
  unfold op_13 f_L_alike f_X9_alike f_X12_alike f_X9_needStatistic f_X12_isNoStatistic f_X12_isIn
  simp only [e0, e1, e2, e3, e4]
  rfl
theorem u13_1_2_2_n (d : Nat) (h1 : 2147483648 ≤ d) (h2 : d < 4294967296) : good (op_13 1 2 2 d sI) = true := by
  have e0 := (wl_n h1 h2 (k := 0) (by decide)).1
  unfold op_13 f_L_alike f_X9_alike f_X12_alike f_X9_needStatistic f_X12_isNoStatistic f_X12_isIn
  have e4 := (wl_n h1 h2 (k := 1) (by decide)).1
  simp only [e0, e4]
  rfl
theorem u13_1_2_2_b (d : Nat) (h1 : 4 ≤ d) (h2 : d < 2147483648) : good (op_13 1 2 2 d sI) = true := by
  have e0 := (wl_b h1 h2 (k := 0) (by decide)).1
  have e1 := (wl_b h1 h2 (k := 3) (by decide)).2.1
  have e2 := (wl_e h1 h2).1
  have e3 := (wl_b h1 h2 (k := 3) (by decide)).2.2.1
  have e4 := (wl_b h1 h2 (k := 1) (by decide)).1
  unfold op_13 f_L_alike f_X9_alike f_X12_alike f_X9_needStatistic f_X12_isNoStatistic f_X12_isIn
  simp only [e0, e1, e2, e3, e4]
  rfl
theorem u13_1_2_3_n (d : Nat) (h1 : 2147483648 ≤ d) (h2 : d < 4294967296) : good (op_13 1 3 2 d sI) = true := by
  have e0 := (wl_n h1 h2 (k := 0) (by decide)).1
  unfold op_13 f_L_alike f_X9_alike f_X12_alike f_X9_needStatistic f_X12_isNoStatistic f_X12_isIn
  have e4 := (wl_n h1 h2 (k := 1) (by decide)).1
  simp only [e0, e4]
  rfl
theorem u13_1_2_3_b (d : Nat) (h1 : 4 ≤ d) (h2 : d < 2147483648) : good (op_13 1 3 2 d sI) = true := by
  have e0 := (wl_b h1 h2 (k := 0) (by decide)).1
  have e1 := (wl_b h1 h2 (k := 3) (by decide)).2.1
  have e2 := (wl_e h1 h2).1
  have e3 := (wl_b h1 h2 (k := 3) (by decide)).2.2.1
  have e4 := (wl_b h1 h2 (k := 1) (by decide)).1
  unfold op_13 f_L_alike f_X9_alike f_X12_alike f_X9_needStatistic f_X12_isNoStatistic f_X12_isIn
  simp only [e0, e1, e2, e3, e4]
  rfl
theorem u12_2_n (b : Nat) (c : Nat) (d : Nat) (h1 : 2147483648 ≤ b) (h2 : b < 4294967296) : good (op_12 2 b c d sI) = true := by
  have e0 := (wl_n h1 h2 (k := 0) (by decide)).1
  unfold op_12 f_L_signs f_X9_signs f_X12_signs f_X9_needStatistic f_X12_isNoStatistic f_X12_isIn
  have e4 := (wl_n h1 h2 (k := 1) (by decide)).1
  simp only [e0, e4]
  rfl
theorem u12_2_b (b : Nat) (c : Nat) (d : Nat) (h1 : 4 ≤ b) (h2 : b < 2147483648) : good (op_12 2 b c d sI) = true := by
  have e0 := (wl_b h1 h2 (k := 0) (by decide)).1
  have e1 := (wl_b h1 h2 (k := 3) (by decide)).2.1
  have e2 := (wl_e h1 h2).1
  have e3 := (wl_b h1 h2 (k := 3) (by decide)).2.2.1
  have e4 := (wl_b h1 h2 (k := 1) (by decide)).1
  unfold op_12 f_L_signs f_X9_signs f_X12_signs f_X9_needStatistic f_X12_isNoStatistic f_X12_isIn
  simp only [e0, e1, e2, e3, e4]
  rfl
theorem u26_2_n (b : Nat) (c : Nat) (d : Nat) (h1 : 2147483648 ≤ b) (h2 : b < 4294967296) : good (op_26 2 b c d sI) = true := by
  have e0 := (wl_n h1 h2 (k := 0) (by decide)).1
  unfold op_26 f_L_mean f_X9_mean f_X12_mean f_X9_needStatistic f_X12_isNoStatistic f_X12_isIn
  have e4 := (wl_n h1 h2 (k := 1) (by decide)).1
  simp only [e0, e4]
  rfl
theorem u26_2_b (b : Nat) (c : Nat) (d : Nat) (h1 : 4 ≤ b) (h2 : b < 2147483648) : good (op_26 2 b c d sI) = true := by
  have e0 := (wl_b h1 h2 (k := 0) (by decide)).1
  have e1 := (wl_b h1 h2 (k := 3) (by decide)).2.1
  have e2 := (wl_e h1 h2).1
  have e3 := (wl_b h1 h2 (k := 3) (by decide)).2.2.1
  have e4 := (wl_b h1 h2 (k := 1) (by decide)).1
  unfold op_26 f_L_mean f_X9_mean f_X12_mean f_X9_needStatistic f_X12_isNoStatistic f_X12_isIn
  simp only [e0, e1, e2, e3, e4]
  rfl
theorem u11_2_n (b : Nat) (c : Nat) (d : Nat) (h1 : 2147483648 ≤ b) (h2 : b < 4294967296) : good (op_11 2 b c d sI) = true := by
  have e0 := (wl_n h1 h2 (k := 0) (by decide)).1
  unfold op_11 f_L_spread f_X9_spread f_X12_spread f_X9_needStatistic f_X12_isNoStatistic f_X12_isIn
  have e4 := (wl_n h1 h2 (k := 1) (by decide)).1
  simp only [e0, e4]
  rfl
theorem u11_2_b (b : Nat) (c : Nat) (d : Nat) (h1 : 4 ≤ b) (h2 : b < 2147483648) : good (op_11 2 b c d sI) = true := by
  have e0 := (wl_b h1 h2 (k := 0) (by decide)).1
  have e1 := (wl_b h1 h2 (k := 3) (by decide)).2.1
  have e2 := (wl_e h1 h2).1
  have e3 := (wl_b h1 h2 (k := 3) (by decide)).2.2.1
  have e4 := (wl_b h1 h2 (k := 1) (by decide)).1
  unfold op_11 f_L_spread f_X9_spread f_X12_spread f_X9_needStatistic f_X12_isNoStatistic f_X12_isIn
  simp only [e0, e1, e2, e3, e4]
  rfl
theorem u10_2_0_n (b : Nat) (d : Nat) (h1 : 2147483648 ≤ b) (h2 : b < 4294967296) : good (op_10 2 b 0 d sI) = true := by
  have e0 := (wl_n h1 h2 (k := 0) (by decide)).1
  unfold op_10 f_L_statistic f_X9_statistic f_X12_statistic f_X9_needStatistic f_X12_isNoStatistic f_X12_isIn
  have e4 := (wl_n h1 h2 (k := 1) (by decide)).1
  simp only [e0, e4]
  rfl
theorem u10_2_0_b (b : Nat) (d : Nat) (h1 : 4 ≤ b) (h2 : b < 2147483648) : good (op_10 2 b 0 d sI) = true := by
  have e0 := (wl_b h1 h2 (k := 0) (by decide)).1
  have e1 := (wl_b h1 h2 (k := 3) (by decide)).2.1
  have e2 := (wl_e h1 h2).1
  have e3 := (wl_b h1 h2 (k := 3) (by decide)).2.2.1
  have e4 := (wl_b h1 h2 (k := 1) (by decide)).1
  unfold op_10 f_L_statistic f_X9_statistic f_X12_statistic f_X9_needStatistic f_X12_isNoStatistic f_X12_isIn
  simp only [e0, e1, e2, e3, e4]
  rfl
theorem u10_2_1_n (b : Nat) (d : Nat) (h1 : 2147483648 ≤ b) (h2 : b < 4294967296) : good (op_10 2 b 1 d sI) = true := by
  have e0 := (wl_n h1 h2 (k := 0) (by decide)).1
  unfold op_10 f_L_statistic f_X9_statistic f_X12_statistic f_X9_needStatistic f_X12_isNoStatistic f_X12_isIn
  have e4 := (wl_n h1 h2 (k := 1) (by decide)).1
  simp only [e0, e4]
  rfl
theorem u10_2_1_b (b : Nat) (d : Nat) (h1 : 4 ≤ b) (h2 : b < 2147483648) : good (op_10 2 b 1 d sI) = true := by
  have e0 := (wl_b h1 h2 (k := 0) (by decide)).1
  have e1 := (wl_b h1 h2 (k := 3) (by decide)).2.1
  have e2 := (wl_e h1 h2).1
  have e3 := (wl_b h1 h2 (k := 3) (by decide)).2.2.1
  have e4 := (wl_b h1 h2 (k := 1) (by decide)).1
  unfold op_10 f_L_statistic f_X9_statistic f_X12_statistic f_X9_needStatistic f_X12_isNoStatistic f_X12_isIn
  simp only [e0, e1, e2, e3, e4]
  rfl
theorem u10_2_2_n (b : Nat) (d : Nat) (h1 : 2147483648 ≤ b) (h2 : b < 4294967296) : good (op_10 2 b 2 d sI) = true := by
  have e0 := (wl_n h1 h2 (k := 0) (by decide)).1
  unfold op_10 f_L_statistic f_X9_statistic f_X12_statistic f_X9_needStatistic f_X12_isNoStatistic f_X12_isIn
  have e4 := (wl_n h1 h2 (k := 1) (by decide)).1
  simp only [e0, e4]
  rfl
theorem u10_2_2_b (b : Nat) (d : Nat) (h1 : 4 ≤ b) (h2 : b < 2147483648) : good (op_10 2 b 2 d sI) = true := by
  have e0 := (wl_b h1 h2 (k := 0) (by decide)).1
  have e1 := (wl_b h1 h2 (k := 3) (by decide)).2.1
  have e2 := (wl_e h1 h2).1
  have e3 := (wl_b h1 h2 (k := 3) (by decide)).2.2.1
  have e4 := (wl_b h1 h2 (k := 1) (by decide)).1
  unfold op_10 f_L_statistic f_X9_statistic f_X12_statistic f_X9_needStatistic f_X12_isNoStatistic f_X12_isIn
  simp only [e0, e1, e2, e3, e4]
  rfl
theorem u10_2_3_n (b : Nat) (d : Nat) (h1 : 2147483648 ≤ b) (h2 : b < 4294967296) : good (op_10 2 b 3 d sI) = true := by
  have e0 := (wl_n h1 h2 (k := 0) (by decide)).1
  unfold op_10 f_L_statistic f_X9_statistic f_X12_statistic f_X9_needStatistic f_X12_isNoStatistic f_X12_isIn
  have e4 := (wl_n h1 h2 (k := 1) (by decide)).1
  simp only [e0, e4]
  rfl
theorem u10_2_3_b (b : Nat) (d : Nat) (h1 : 4 ≤ b) (h2 : b < 2147483648) : good (op_10 2 b 3 d sI) = true := by
  have e0 := (wl_b h1 h2 (k := 0) (by decide)).1
  have e1 := (wl_b h1 h2 (k := 3) (by decide)).2.1
  have e2 := (wl_e h1 h2).1
  have e3 := (wl_b h1 h2 (k := 3) (by decide)).2.2.1
  have e4 := (wl_b h1 h2 (k := 1) (by decide)).1
  unfold op_10 f_L_statistic f_X9_statistic f_X12_statistic f_X9_needStatistic f_X12_isNoStatistic f_X12_isIn
  simp only [e0, e1, e2, e3, e4]
  rfl
theorem u10_2_4_n (b : Nat) (d : Nat) (h1 : 2147483648 ≤ b) (h2 : b < 4294967296) : good (op_10 2 b 4 d sI) = true := by
  have e0 := (wl_n h1 h2 (k := 0) (by decide)).1
  unfold op_10 f_L_statistic f_X9_statistic f_X12_statistic f_X9_needStatistic f_X12_isNoStatistic f_X12_isIn
  have e4 := (wl_n h1 h2 (k := 1) (by decide)).1
  simp only [e0, e4]
  rfl
theorem u10_2_4_b (b : Nat) (d : Nat) (h1 : 4 ≤ b) (h2 : b < 2147483648) : good (op_10 2 b 4 d sI) = true := by
  have e0 := (wl_b h1 h2 (k := 0) (by decide)).1
  have e1 := (wl_b h1 h2 (k := 3) (by decide)).2.1
  have e2 := (wl_e h1 h2).1
  have e3 := (wl_b h1 h2 (k := 3) (by decide)).2.2.1
  have e4 := (wl_b h1 h2 (k := 1) (by decide)).1
  unfold op_10 f_L_statistic f_X9_statistic f_X12_statistic f_X9_needStatistic f_X12_isNoStatistic f_X12_isIn
  simp only [e0, e1, e2, e3, e4]
  rfl
theorem u10_2_5_n (b : Nat) (d : Nat) (h1 : 2147483648 ≤ b) (h2 : b < 4294967296) : good (op_10 2 b 5 d sI) = true := by
  have e0 := (wl_n h1 h2 (k := 0) (by decide)).1
  unfold op_10 f_L_statistic f_X9_statistic f_X12_statistic f_X9_needStatistic f_X12_isNoStatistic f_X12_isIn
  have e4 := (wl_n h1 h2 (k := 1) (by decide)).1
  simp only [e0, e4]
  rfl
theorem u10_2_5_b (b : Nat) (d : Nat) (h1 : 4 ≤ b) (h2 : b < 2147483648) : good (op_10 2 b 5 d sI) = true := by
  have e0 := (wl_b h1 h2 (k := 0) (by decide)).1
  have e1 := (wl_b h1 h2 (k := 3) (by decide)).2.1
  have e2 := (wl_e h1 h2).1
  have e3 := (wl_b h1 h2 (k := 3) (by decide)).2.2.1
  have e4 := (wl_b h1 h2 (k := 1) (by decide)).1
  unfold op_10 f_L_statistic f_X9_statistic f_X12_statistic f_X9_needStatistic f_X12_isNoStatistic f_X12_isIn
  simp only [e0, e1, e2, e3, e4]
  rfl
theorem u13_2_n (b : Nat) (c : Nat) (d : Nat) (h1 : 2147483648 ≤ c) (h2 : c < 4294967296) : good (op_13 2 b c d sI) = true := by
  have e0 := (wl_n h1 h2 (k := 0) (by decide)).1
  unfold op_13 f_L_alike f_X9_alike f_X12_alike f_X9_needFamily f_X12_isNoFamily f_X12_isIn
  have e4 := (wl_n h1 h2 (k := 1) (by decide)).1
  simp only [e0, e4]
  rfl
theorem u13_2_b (b : Nat) (c : Nat) (d : Nat) (h1 : 3 ≤ c) (h2 : c < 2147483648) : good (op_13 2 b c d sI) = true := by
  have e0 := (wl_b h1 h2 (k := 0) (by decide)).1
  have e1 := (wl_b h1 h2 (k := 2) (by decide)).2.1
  have e2 := (wl_e h1 h2).1
  have e3 := (wl_b h1 h2 (k := 2) (by decide)).2.2.1
  have e4 := (wl_b h1 h2 (k := 1) (by decide)).1
  unfold op_13 f_L_alike f_X9_alike f_X12_alike f_X9_needFamily f_X12_isNoFamily f_X12_isIn
  simp only [e0, e1, e2, e3, e4]
  rfl
theorem u13_2_0_n (b : Nat) (d : Nat) (h1 : 2147483648 ≤ b) (h2 : b < 4294967296) : good (op_13 2 b 0 d sI) = true := by
  have e0 := (wl_n h1 h2 (k := 0) (by decide)).1
  unfold op_13 f_L_alike f_X9_alike f_X12_alike f_X9_needStatistic f_X12_isNoStatistic f_X12_isIn
  have e4 := (wl_n h1 h2 (k := 1) (by decide)).1
  simp only [e0, e4]
  rfl
theorem u13_2_0_b (b : Nat) (d : Nat) (h1 : 4 ≤ b) (h2 : b < 2147483648) : good (op_13 2 b 0 d sI) = true := by
  have e0 := (wl_b h1 h2 (k := 0) (by decide)).1
  have e1 := (wl_b h1 h2 (k := 3) (by decide)).2.1
  have e2 := (wl_e h1 h2).1
  have e3 := (wl_b h1 h2 (k := 3) (by decide)).2.2.1
  have e4 := (wl_b h1 h2 (k := 1) (by decide)).1
  unfold op_13 f_L_alike f_X9_alike f_X12_alike f_X9_needStatistic f_X12_isNoStatistic f_X12_isIn
  simp only [e0, e1, e2, e3, e4]
  rfl
theorem u13_2_0_0_n (d : Nat) (h1 : 2147483648 ≤ d) (h2 : d < 4294967296) : good (op_13 2 0 0 d sI) = true := by
  have e0 := (wl_n h1 h2 (k := 0) (by decide)).1
  unfold op_13 f_L_alike f_X9_alike f_X12_alike f_X9_needStatistic f_X12_isNoStatistic f_X12_isIn
  have e4 := (wl_n h1 h2 (k := 1) (by decide)).1
  simp only [e0, e4]
  rfl
theorem u13_2_0_0_b (d : Nat) (h1 : 4 ≤ d) (h2 : d < 2147483648) : good (op_13 2 0 0 d sI) = true := by
  have e0 := (wl_b h1 h2 (k := 0) (by decide)).1
  have e1 := (wl_b h1 h2 (k := 3) (by decide)).2.1
  have e2 := (wl_e h1 h2).1
  have e3 := (wl_b h1 h2 (k := 3) (by decide)).2.2.1
  have e4 := (wl_b h1 h2 (k := 1) (by decide)).1
  unfold op_13 f_L_alike f_X9_alike f_X12_alike f_X9_needStatistic f_X12_isNoStatistic f_X12_isIn
  simp only [e0, e1, e2, e3, e4]
  rfl
theorem u13_2_0_1_n (d : Nat) (h1 : 2147483648 ≤ d) (h2 : d < 4294967296) : good (op_13 2 1 0 d sI) = true := by
  have e0 := (wl_n h1 h2 (k := 0) (by decide)).1
  unfold op_13 f_L_alike f_X9_alike f_X12_alike f_X9_needStatistic f_X12_isNoStatistic f_X12_isIn
  have e4 := (wl_n h1 h2 (k := 1) (by decide)).1
  simp only [e0, e4]
  rfl
theorem u13_2_0_1_b (d : Nat) (h1 : 4 ≤ d) (h2 : d < 2147483648) : good (op_13 2 1 0 d sI) = true := by
  have e0 := (wl_b h1 h2 (k := 0) (by decide)).1
  have e1 := (wl_b h1 h2 (k := 3) (by decide)).2.1
  have e2 := (wl_e h1 h2).1
  have e3 := (wl_b h1 h2 (k := 3) (by decide)).2.2.1
  have e4 := (wl_b h1 h2 (k := 1) (by decide)).1
  unfold op_13 f_L_alike f_X9_alike f_X12_alike f_X9_needStatistic f_X12_isNoStatistic f_X12_isIn
  simp only [e0, e1, e2, e3, e4]
  rfl
theorem u13_2_0_2_n (d : Nat) (h1 : 2147483648 ≤ d) (h2 : d < 4294967296) : good (op_13 2 2 0 d sI) = true := by
  have e0 := (wl_n h1 h2 (k := 0) (by decide)).1
  unfold op_13 f_L_alike f_X9_alike f_X12_alike f_X9_needStatistic f_X12_isNoStatistic f_X12_isIn
  have e4 := (wl_n h1 h2 (k := 1) (by decide)).1
  simp only [e0, e4]
  rfl
theorem u13_2_0_2_b (d : Nat) (h1 : 4 ≤ d) (h2 : d < 2147483648) : good (op_13 2 2 0 d sI) = true := by
  have e0 := (wl_b h1 h2 (k := 0) (by decide)).1
  have e1 := (wl_b h1 h2 (k := 3) (by decide)).2.1
  have e2 := (wl_e h1 h2).1
  have e3 := (wl_b h1 h2 (k := 3) (by decide)).2.2.1
  have e4 := (wl_b h1 h2 (k := 1) (by decide)).1
  unfold op_13 f_L_alike f_X9_alike f_X12_alike f_X9_needStatistic f_X12_isNoStatistic f_X12_isIn
  simp only [e0, e1, e2, e3, e4]
  rfl
theorem u13_2_0_3_n (d : Nat) (h1 : 2147483648 ≤ d) (h2 : d < 4294967296) : good (op_13 2 3 0 d sI) = true := by
  have e0 := (wl_n h1 h2 (k := 0) (by decide)).1
  unfold op_13 f_L_alike f_X9_alike f_X12_alike f_X9_needStatistic f_X12_isNoStatistic f_X12_isIn
  have e4 := (wl_n h1 h2 (k := 1) (by decide)).1
  simp only [e0, e4]
  rfl
theorem u13_2_0_3_b (d : Nat) (h1 : 4 ≤ d) (h2 : d < 2147483648) : good (op_13 2 3 0 d sI) = true := by
  have e0 := (wl_b h1 h2 (k := 0) (by decide)).1
  have e1 := (wl_b h1 h2 (k := 3) (by decide)).2.1
  have e2 := (wl_e h1 h2).1
  have e3 := (wl_b h1 h2 (k := 3) (by decide)).2.2.1
  have e4 := (wl_b h1 h2 (k := 1) (by decide)).1
  unfold op_13 f_L_alike f_X9_alike f_X12_alike f_X9_needStatistic f_X12_isNoStatistic f_X12_isIn
  simp only [e0, e1, e2, e3, e4]
  rfl
theorem u13_2_1_n (b : Nat) (d : Nat) (h1 : 2147483648 ≤ b) (h2 : b < 4294967296) : good (op_13 2 b 1 d sI) = true := by
  have e0 := (wl_n h1 h2 (k := 0) (by decide)).1
  unfold op_13 f_L_alike f_X9_alike f_X12_alike f_X9_needStatistic f_X12_isNoStatistic f_X12_isIn
  have e4 := (wl_n h1 h2 (k := 1) (by decide)).1
  simp only [e0, e4]
  rfl
theorem u13_2_1_b (b : Nat) (d : Nat) (h1 : 4 ≤ b) (h2 : b < 2147483648) : good (op_13 2 b 1 d sI) = true := by
  have e0 := (wl_b h1 h2 (k := 0) (by decide)).1
  have e1 := (wl_b h1 h2 (k := 3) (by decide)).2.1
  have e2 := (wl_e h1 h2).1
  have e3 := (wl_b h1 h2 (k := 3) (by decide)).2.2.1
  have e4 := (wl_b h1 h2 (k := 1) (by decide)).1
  unfold op_13 f_L_alike f_X9_alike f_X12_alike f_X9_needStatistic f_X12_isNoStatistic f_X12_isIn
  simp only [e0, e1, e2, e3, e4]
  rfl
theorem u13_2_1_0_n (d : Nat) (h1 : 2147483648 ≤ d) (h2 : d < 4294967296) : good (op_13 2 0 1 d sI) = true := by
  have e0 := (wl_n h1 h2 (k := 0) (by decide)).1
  unfold op_13 f_L_alike f_X9_alike f_X12_alike f_X9_needStatistic f_X12_isNoStatistic f_X12_isIn
  have e4 := (wl_n h1 h2 (k := 1) (by decide)).1
  simp only [e0, e4]
  rfl
theorem u13_2_1_0_b (d : Nat) (h1 : 4 ≤ d) (h2 : d < 2147483648) : good (op_13 2 0 1 d sI) = true := by
  have e0 := (wl_b h1 h2 (k := 0) (by decide)).1
  have e1 := (wl_b h1 h2 (k := 3) (by decide)).2.1
  have e2 := (wl_e h1 h2).1
  have e3 := (wl_b h1 h2 (k := 3) (by decide)).2.2.1
  have e4 := (wl_b h1 h2 (k := 1) (by decide)).1
  unfold op_13 f_L_alike f_X9_alike f_X12_alike f_X9_needStatistic f_X12_isNoStatistic f_X12_isIn
  simp only [e0, e1, e2, e3, e4]
  rfl
theorem u13_2_1_1_n (d : Nat) (h1 : 2147483648 ≤ d) (h2 : d < 4294967296) : good (op_13 2 1 1 d sI) = true := by
  have e0 := (wl_n h1 h2 (k := 0) (by decide)).1
  unfold op_13 f_L_alike f_X9_alike f_X12_alike f_X9_needStatistic f_X12_isNoStatistic f_X12_isIn
  have e4 := (wl_n h1 h2 (k := 1) (by decide)).1
  simp only [e0, e4]
  rfl
theorem u13_2_1_1_b (d : Nat) (h1 : 4 ≤ d) (h2 : d < 2147483648) : good (op_13 2 1 1 d sI) = true := by
  have e0 := (wl_b h1 h2 (k := 0) (by decide)).1
  have e1 := (wl_b h1 h2 (k := 3) (by decide)).2.1
  have e2 := (wl_e h1 h2).1
  have e3 := (wl_b h1 h2 (k := 3) (by decide)).2.2.1
  have e4 := (wl_b h1 h2 (k := 1) (by decide)).1
  unfold op_13 f_L_alike f_X9_alike f_X12_alike f_X9_needStatistic f_X12_isNoStatistic f_X12_isIn
  simp only [e0, e1, e2, e3, e4]
  rfl
theorem u13_2_1_2_n (d : Nat) (h1 : 2147483648 ≤ d) (h2 : d < 4294967296) : good (op_13 2 2 1 d sI) = true := by
  have e0 := (wl_n h1 h2 (k := 0) (by decide)).1
  unfold op_13 f_L_alike f_X9_alike f_X12_alike f_X9_needStatistic f_X12_isNoStatistic f_X12_isIn
  have e4 := (wl_n h1 h2 (k := 1) (by decide)).1
  simp only [e0, e4]
  rfl
theorem u13_2_1_2_b (d : Nat) (h1 : 4 ≤ d) (h2 : d < 2147483648) : good (op_13 2 2 1 d sI) = true := by
  have e0 := (wl_b h1 h2 (k := 0) (by decide)).1
  have e1 := (wl_b h1 h2 (k := 3) (by decide)).2.1
  have e2 := (wl_e h1 h2).1
  have e3 := (wl_b h1 h2 (k := 3) (by decide)).2.2.1
  have e4 := (wl_b h1 h2 (k := 1) (by decide)).1
  unfold op_13 f_L_alike f_X9_alike f_X12_alike f_X9_needStatistic f_X12_isNoStatistic f_X12_isIn
  simp only [e0, e1, e2, e3, e4]
  rfl
theorem u13_2_1_3_n (d : Nat) (h1 : 2147483648 ≤ d) (h2 : d < 4294967296) : good (op_13 2 3 1 d sI) = true := by
  have e0 := (wl_n h1 h2 (k := 0) (by decide)).1
  unfold op_13 f_L_alike f_X9_alike f_X12_alike f_X9_needStatistic f_X12_isNoStatistic f_X12_isIn
  have e4 := (wl_n h1 h2 (k := 1) (by decide)).1
  simp only [e0, e4]
  rfl
theorem u13_2_1_3_b (d : Nat) (h1 : 4 ≤ d) (h2 : d < 2147483648) : good (op_13 2 3 1 d sI) = true := by
  have e0 := (wl_b h1 h2 (k := 0) (by decide)).1
  have e1 := (wl_b h1 h2 (k := 3) (by decide)).2.1
  have e2 := (wl_e h1 h2).1
  have e3 := (wl_b h1 h2 (k := 3) (by decide)).2.2.1
  have e4 := (wl_b h1 h2 (k := 1) (by decide)).1
  unfold op_13 f_L_alike f_X9_alike f_X12_alike f_X9_needStatistic f_X12_isNoStatistic f_X12_isIn
  simp only [e0, e1, e2, e3, e4]
  rfl
theorem u13_2_2_n (b : Nat) (d : Nat) (h1 : 2147483648 ≤ b) (h2 : b < 4294967296) : good (op_13 2 b 2 d sI) = true := by
  have e0 := (wl_n h1 h2 (k := 0) (by decide)).1
  unfold op_13 f_L_alike f_X9_alike f_X12_alike f_X9_needStatistic f_X12_isNoStatistic f_X12_isIn
  have e4 := (wl_n h1 h2 (k := 1) (by decide)).1
  simp only [e0, e4]
  rfl
theorem u13_2_2_b (b : Nat) (d : Nat) (h1 : 4 ≤ b) (h2 : b < 2147483648) : good (op_13 2 b 2 d sI) = true := by
  have e0 := (wl_b h1 h2 (k := 0) (by decide)).1
  have e1 := (wl_b h1 h2 (k := 3) (by decide)).2.1
  have e2 := (wl_e h1 h2).1
  have e3 := (wl_b h1 h2 (k := 3) (by decide)).2.2.1
  have e4 := (wl_b h1 h2 (k := 1) (by decide)).1
  unfold op_13 f_L_alike f_X9_alike f_X12_alike f_X9_needStatistic f_X12_isNoStatistic f_X12_isIn
  simp only [e0, e1, e2, e3, e4]
  rfl
theorem u13_2_2_0_n (d : Nat) (h1 : 2147483648 ≤ d) (h2 : d < 4294967296) : good (op_13 2 0 2 d sI) = true := by
  have e0 := (wl_n h1 h2 (k := 0) (by decide)).1
  unfold op_13 f_L_alike f_X9_alike f_X12_alike f_X9_needStatistic f_X12_isNoStatistic f_X12_isIn
  have e4 := (wl_n h1 h2 (k := 1) (by decide)).1
  simp only [e0, e4]
  rfl
theorem u13_2_2_0_b (d : Nat) (h1 : 4 ≤ d) (h2 : d < 2147483648) : good (op_13 2 0 2 d sI) = true := by
  have e0 := (wl_b h1 h2 (k := 0) (by decide)).1
  have e1 := (wl_b h1 h2 (k := 3) (by decide)).2.1
  have e2 := (wl_e h1 h2).1
  have e3 := (wl_b h1 h2 (k := 3) (by decide)).2.2.1
  have e4 := (wl_b h1 h2 (k := 1) (by decide)).1
  unfold op_13 f_L_alike f_X9_alike f_X12_alike f_X9_needStatistic f_X12_isNoStatistic f_X12_isIn
  simp only [e0, e1, e2, e3, e4]
  rfl
theorem u13_2_2_1_n (d : Nat) (h1 : 2147483648 ≤ d) (h2 : d < 4294967296) : good (op_13 2 1 2 d sI) = true := by
  have e0 := (wl_n h1 h2 (k := 0) (by decide)).1
  unfold op_13 f_L_alike f_X9_alike f_X12_alike f_X9_needStatistic f_X12_isNoStatistic f_X12_isIn
  have e4 := (wl_n h1 h2 (k := 1) (by decide)).1
  simp only [e0, e4]
  rfl
theorem u13_2_2_1_b (d : Nat) (h1 : 4 ≤ d) (h2 : d < 2147483648) : good (op_13 2 1 2 d sI) = true := by
  have e0 := (wl_b h1 h2 (k := 0) (by decide)).1
  have e1 := (wl_b h1 h2 (k := 3) (by decide)).2.1
  have e2 := (wl_e h1 h2).1
  have e3 := (wl_b h1 h2 (k := 3) (by decide)).2.2.1
  have e4 := (wl_b h1 h2 (k := 1) (by decide)).1
  unfold op_13 f_L_alike f_X9_alike f_X12_alike f_X9_needStatistic f_X12_isNoStatistic f_X12_isIn
  simp only [e0, e1, e2, e3, e4]
  rfl
theorem u13_2_2_2_n (d : Nat) (h1 : 2147483648 ≤ d) (h2 : d < 4294967296) : good (op_13 2 2 2 d sI) = true := by
  have e0 := (wl_n h1 h2 (k := 0) (by decide)).1
  unfold op_13 f_L_alike f_X9_alike f_X12_alike f_X9_needStatistic f_X12_isNoStatistic f_X12_isIn
  have e4 := (wl_n h1 h2 (k := 1) (by decide)).1
  simp only [e0, e4]
  rfl
theorem u13_2_2_2_b (d : Nat) (h1 : 4 ≤ d) (h2 : d < 2147483648) : good (op_13 2 2 2 d sI) = true := by
  have e0 := (wl_b h1 h2 (k := 0) (by decide)).1
  have e1 := (wl_b h1 h2 (k := 3) (by decide)).2.1
  have e2 := (wl_e h1 h2).1
  have e3 := (wl_b h1 h2 (k := 3) (by decide)).2.2.1
  have e4 := (wl_b h1 h2 (k := 1) (by decide)).1
  unfold op_13 f_L_alike f_X9_alike f_X12_alike f_X9_needStatistic f_X12_isNoStatistic f_X12_isIn
  simp only [e0, e1, e2, e3, e4]
  rfl
theorem u13_2_2_3_n (d : Nat) (h1 : 2147483648 ≤ d) (h2 : d < 4294967296) : good (op_13 2 3 2 d sI) = true := by
  have e0 := (wl_n h1 h2 (k := 0) (by decide)).1
  unfold op_13 f_L_alike f_X9_alike f_X12_alike f_X9_needStatistic f_X12_isNoStatistic f_X12_isIn
  have e4 := (wl_n h1 h2 (k := 1) (by decide)).1
  simp only [e0, e4]
  rfl
theorem u13_2_2_3_b (d : Nat) (h1 : 4 ≤ d) (h2 : d < 2147483648) : good (op_13 2 3 2 d sI) = true := by
  have e0 := (wl_b h1 h2 (k := 0) (by decide)).1
  have e1 := (wl_b h1 h2 (k := 3) (by decide)).2.1
  have e2 := (wl_e h1 h2).1
  have e3 := (wl_b h1 h2 (k := 3) (by decide)).2.2.1
  have e4 := (wl_b h1 h2 (k := 1) (by decide)).1
  unfold op_13 f_L_alike f_X9_alike f_X12_alike f_X9_needStatistic f_X12_isNoStatistic f_X12_isIn
  simp only [e0, e1, e2, e3, e4]
  rfl
theorem u15_n (a : Nat) (b : Nat) (c : Nat) (d : Nat) (h1 : 2147483648 ≤ a) (h2 : a < 4294967296) : good (op_15 a b c d sI) = true := by
  have e0 := (wl_n h1 h2 (k := 0) (by decide)).1
  unfold op_15 f_L_sorted f_X9_sorted f_X12_sorted f_X12_isIn
  have e4 := (wl_n h1 h2 (k := 1) (by decide)).1
  simp only [e0, e4]
  rfl
theorem u15_b (a : Nat) (b : Nat) (c : Nat) (d : Nat) (h1 : 7 ≤ a) (h2 : a < 2147483648) : good (op_15 a b c d sI) = true := by
  have e0 := (wl_b h1 h2 (k := 0) (by decide)).1
  have e1 := (wl_b h1 h2 (k := 6) (by decide)).2.1
  have e2 := (wl_e h1 h2).1
  have e3 := (wl_b h1 h2 (k := 6) (by decide)).2.2.1
  have e4 := (wl_b h1 h2 (k := 1) (by decide)).1
  unfold op_15 f_L_sorted f_X9_sorted f_X12_sorted f_X12_isIn
  simp only [e0, e1, e2, e3, e4]
  rfl
theorem u0_n (a : Nat) (b : Nat) (c : Nat) (d : Nat) (h1 : 2147483648 ≤ a) (h2 : a < 4294967296) : good (op_0 a b c d sI) = true := by
  have e0 := (wl_n h1 h2 (k := 0) (by decide)).1
  unfold op_0 f_L_size f_X9_size f_X12_size f_X12_isIn
  have e4 := (wl_n h1 h2 (k := 1) (by decide)).1
  simp only [e0, e4]
  rfl
theorem u0_b (a : Nat) (b : Nat) (c : Nat) (d : Nat) (h1 : 7 ≤ a) (h2 : a < 2147483648) : good (op_0 a b c d sI) = true := by
  have e0 := (wl_b h1 h2 (k := 0) (by decide)).1
  have e1 := (wl_b h1 h2 (k := 6) (by decide)).2.1
  have e2 := (wl_e h1 h2).1
  have e3 := (wl_b h1 h2 (k := 6) (by decide)).2.2.1
  have e4 := (wl_b h1 h2 (k := 1) (by decide)).1
  unfold op_0 f_L_size f_X9_size f_X12_size f_X12_isIn
  simp only [e0, e1, e2, e3, e4]
  rfl
