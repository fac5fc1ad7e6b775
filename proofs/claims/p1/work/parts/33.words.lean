/-! ===== words of some region: what comparisons answer ===== -/
theorem wl_n {a : Nat} (h1 : 2147483648 ≤ a) (h2 : a < 4294967296) {k : Nat} (hk : k < 2147483648) : wlt a k = true ∧ wlt k a = false ∧ wle a k = true ∧ wle k a = false ∧ weq a k = false := by
  unfold wlt wle weq
  refine ⟨?_, ?_, ?_, ?_, ?_⟩
  · rw [Nat.ble_eq]; show (a + 2147483648) % 4294967296 + 1 ≤ (k + 2147483648) % 4294967296; omega
  · rw [← Bool.not_eq_true, Nat.ble_eq]; show ¬ ((k + 2147483648) % 4294967296 + 1 ≤ (a + 2147483648) % 4294967296); omega
  · rw [Nat.ble_eq]; show (a + 2147483648) % 4294967296 ≤ (k + 2147483648) % 4294967296; omega
  · rw [← Bool.not_eq_true, Nat.ble_eq]; show ¬ ((k + 2147483648) % 4294967296 ≤ (a + 2147483648) % 4294967296); omega
  · rw [← Bool.not_eq_true, Nat.beq_eq]; show ¬ (a % 4294967296 = k % 4294967296); omega
theorem wl_b {a n : Nat} (h1 : n ≤ a) (h2 : a < 2147483648) {k : Nat} (hk : k < n) : wlt a k = false ∧ wlt k a = true ∧ wle a k = false ∧ wle k a = true ∧ weq a k = false := by
  unfold wlt wle weq
  refine ⟨?_, ?_, ?_, ?_, ?_⟩
  · rw [← Bool.not_eq_true, Nat.ble_eq]; show ¬ ((a + 2147483648) % 4294967296 + 1 ≤ (k + 2147483648) % 4294967296); omega
  · rw [Nat.ble_eq]; show (k + 2147483648) % 4294967296 + 1 ≤ (a + 2147483648) % 4294967296; omega
  · rw [← Bool.not_eq_true, Nat.ble_eq]; show ¬ ((a + 2147483648) % 4294967296 ≤ (k + 2147483648) % 4294967296); omega
  · rw [Nat.ble_eq]; show (k + 2147483648) % 4294967296 ≤ (a + 2147483648) % 4294967296; omega
  · rw [← Bool.not_eq_true, Nat.beq_eq]; show ¬ (a % 4294967296 = k % 4294967296); omega
theorem wl_e {a n : Nat} (h1 : n ≤ a) (h2 : a < 2147483648) : wlt a n = false ∧ wle n a = true := by
  unfold wlt wle
  refine ⟨?_, ?_⟩
  · rw [← Bool.not_eq_true, Nat.ble_eq]; show ¬ ((a + 2147483648) % 4294967296 + 1 ≤ (n + 2147483648) % 4294967296); omega
  · rw [Nat.ble_eq]; show (n + 2147483648) % 4294967296 ≤ (a + 2147483648) % 4294967296; omega
/-- a word is below n, or neither: under zero, or n and more -/
theorem wl_c {a : Nat} (h : a < 4294967296) (n : Nat) (hn : n ≤ 2147483648) : a < n ∨ (2147483648 ≤ a) ∨ (n ≤ a ∧ a < 2147483648) := by omega
theorem s7_n (a : Nat) (b : Nat) (c : Nat) (d : Nat) (h1 : 2147483648 ≤ a) (h2 : a < 4294967296) : good (op_7 a b c d sI) = true := by
  have e0 := (wl_n h1 h2 (k := 0) (by decide)).1
  unfold op_7 f_L_objects f_X9_objects f_X12_objects f_X9_needFamily f_X12_isNoFamily f_X12_isIn
  have e4 := (wl_n h1 h2 (k := 1) (by decide)).1
  simp only [e0, e4]
  rfl
theorem s7_b (a : Nat) (b : Nat) (c : Nat) (d : Nat) (h1 : 3 ≤ a) (h2 : a < 2147483648) : good (op_7 a b c d sI) = true := by
  have e0 := (wl_b h1 h2 (k := 0) (by decide)).1
  have e1 := (wl_b h1 h2 (k := 2) (by decide)).2.1
  have e2 := (wl_e h1 h2).1
  have e3 := (wl_b h1 h2 (k := 2) (by decide)).2.2.1
  have e4 := (wl_b h1 h2 (k := 1) (by decide)).1
  unfold op_7 f_L_objects f_X9_objects f_X12_objects f_X9_needFamily f_X12_isNoFamily f_X12_isIn
  simp only [e0, e1, e2, e3, e4]
  rfl
theorem s8_n (a : Nat) (b : Nat) (c : Nat) (d : Nat) (h1 : 2147483648 ≤ a) (h2 : a < 4294967296) : good (op_8 a b c d sI) = true := by
  have e0 := (wl_n h1 h2 (k := 0) (by decide)).1
  unfold op_8 f_L_unrank f_X9_unrank f_X12_unrank f_X9_needRank f_X12_isNoRank f_X9_needFamily f_X12_isNoFamily f_X12_isIn
  have e4 := (wl_n h1 h2 (k := 1) (by decide)).1
  simp only [e0, e4]
  rfl
theorem s8_b (a : Nat) (b : Nat) (c : Nat) (d : Nat) (h1 : 3 ≤ a) (h2 : a < 2147483648) : good (op_8 a b c d sI) = true := by
  have e0 := (wl_b h1 h2 (k := 0) (by decide)).1
  have e1 := (wl_b h1 h2 (k := 2) (by decide)).2.1
  have e2 := (wl_e h1 h2).1
  have e3 := (wl_b h1 h2 (k := 2) (by decide)).2.2.1
  have e4 := (wl_b h1 h2 (k := 1) (by decide)).1
  unfold op_8 f_L_unrank f_X9_unrank f_X12_unrank f_X9_needRank f_X12_isNoRank f_X9_needFamily f_X12_isNoFamily f_X12_isIn
  simp only [e0, e1, e2, e3, e4]
  rfl
theorem s9_n (a : Nat) (b : Nat) (c : Nat) (d : Nat) (h1 : 2147483648 ≤ a) (h2 : a < 4294967296) : good (op_9 a b c d sI) = true := by
  have e0 := (wl_n h1 h2 (k := 0) (by decide)).1
  unfold op_9 f_L_rank f_X9_rank f_X12_rank f_X9_needFamily f_X12_isNoFamily f_X12_isIn
  have e4 := (wl_n h1 h2 (k := 1) (by decide)).1
  simp only [e0, e4]
  rfl
theorem s9_b (a : Nat) (b : Nat) (c : Nat) (d : Nat) (h1 : 3 ≤ a) (h2 : a < 2147483648) : good (op_9 a b c d sI) = true := by
  have e0 := (wl_b h1 h2 (k := 0) (by decide)).1
  have e1 := (wl_b h1 h2 (k := 2) (by decide)).2.1
  have e2 := (wl_e h1 h2).1
  have e3 := (wl_b h1 h2 (k := 2) (by decide)).2.2.1
  have e4 := (wl_b h1 h2 (k := 1) (by decide)).1
  unfold op_9 f_L_rank f_X9_rank f_X12_rank f_X9_needFamily f_X12_isNoFamily f_X12_isIn
  simp only [e0, e1, e2, e3, e4]
  rfl
theorem s3_n (a : Nat) (b : Nat) (c : Nat) (d : Nat) (h1 : 2147483648 ≤ a) (h2 : a < 4294967296) : good (op_3 a b c d sI) = true := by
  have e0 := (wl_n h1 h2 (k := 0) (by decide)).1
  unfold op_3 f_L_walker f_X9_walker f_X12_walker f_X9_needFamily f_X12_isNoFamily f_X12_isIn
  have e4 := (wl_n h1 h2 (k := 1) (by decide)).1
  simp only [e0, e4]
  rfl
theorem s3_b (a : Nat) (b : Nat) (c : Nat) (d : Nat) (h1 : 3 ≤ a) (h2 : a < 2147483648) : good (op_3 a b c d sI) = true := by
  have e0 := (wl_b h1 h2 (k := 0) (by decide)).1
  have e1 := (wl_b h1 h2 (k := 2) (by decide)).2.1
  have e2 := (wl_e h1 h2).1
  have e3 := (wl_b h1 h2 (k := 2) (by decide)).2.2.1
  have e4 := (wl_b h1 h2 (k := 1) (by decide)).1
  unfold op_3 f_L_walker f_X9_walker f_X12_walker f_X9_needFamily f_X12_isNoFamily f_X12_isIn
  simp only [e0, e1, e2, e3, e4]
  rfl
theorem s10_n (a : Nat) (b : Nat) (c : Nat) (d : Nat) (h1 : 2147483648 ≤ a) (h2 : a < 4294967296) : good (op_10 a b c d sI) = true := by
  have e0 := (wl_n h1 h2 (k := 0) (by decide)).1
  unfold op_10 f_L_statistic f_X9_statistic f_X12_statistic f_X9_needRank f_X12_isNoRank f_X9_needFamily f_X12_isNoFamily f_X12_isIn
  have e4 := (wl_n h1 h2 (k := 1) (by decide)).1
  simp only [e0, e4]
  rfl
theorem s10_b (a : Nat) (b : Nat) (c : Nat) (d : Nat) (h1 : 3 ≤ a) (h2 : a < 2147483648) : good (op_10 a b c d sI) = true := by
  have e0 := (wl_b h1 h2 (k := 0) (by decide)).1
  have e1 := (wl_b h1 h2 (k := 2) (by decide)).2.1
  have e2 := (wl_e h1 h2).1
  have e3 := (wl_b h1 h2 (k := 2) (by decide)).2.2.1
  have e4 := (wl_b h1 h2 (k := 1) (by decide)).1
  unfold op_10 f_L_statistic f_X9_statistic f_X12_statistic f_X9_needRank f_X12_isNoRank f_X9_needFamily f_X12_isNoFamily f_X12_isIn
  simp only [e0, e1, e2, e3, e4]
  rfl
theorem s11_n (a : Nat) (b : Nat) (c : Nat) (d : Nat) (h1 : 2147483648 ≤ a) (h2 : a < 4294967296) : good (op_11 a b c d sI) = true := by
  have e0 := (wl_n h1 h2 (k := 0) (by decide)).1
  unfold op_11 f_L_spread f_X9_spread f_X12_spread f_X9_needFamily f_X12_isNoFamily f_X12_isIn
  have e4 := (wl_n h1 h2 (k := 1) (by decide)).1
  simp only [e0, e4]
  rfl
theorem s11_b (a : Nat) (b : Nat) (c : Nat) (d : Nat) (h1 : 3 ≤ a) (h2 : a < 2147483648) : good (op_11 a b c d sI) = true := by
  have e0 := (wl_b h1 h2 (k := 0) (by decide)).1
  have e1 := (wl_b h1 h2 (k := 2) (by decide)).2.1
  have e2 := (wl_e h1 h2).1
  have e3 := (wl_b h1 h2 (k := 2) (by decide)).2.2.1
  have e4 := (wl_b h1 h2 (k := 1) (by decide)).1
  unfold op_11 f_L_spread f_X9_spread f_X12_spread f_X9_needFamily f_X12_isNoFamily f_X12_isIn
  simp only [e0, e1, e2, e3, e4]
  rfl
theorem s12_n (a : Nat) (b : Nat) (c : Nat) (d : Nat) (h1 : 2147483648 ≤ a) (h2 : a < 4294967296) : good (op_12 a b c d sI) = true := by
  have e0 := (wl_n h1 h2 (k := 0) (by decide)).1
  unfold op_12 f_L_signs f_X9_signs f_X12_signs f_X9_needFamily f_X12_isNoFamily f_X12_isIn
  have e4 := (wl_n h1 h2 (k := 1) (by decide)).1
  simp only [e0, e4]
  rfl
theorem s12_b (a : Nat) (b : Nat) (c : Nat) (d : Nat) (h1 : 3 ≤ a) (h2 : a < 2147483648) : good (op_12 a b c d sI) = true := by
  have e0 := (wl_b h1 h2 (k := 0) (by decide)).1
  have e1 := (wl_b h1 h2 (k := 2) (by decide)).2.1
  have e2 := (wl_e h1 h2).1
  have e3 := (wl_b h1 h2 (k := 2) (by decide)).2.2.1
  have e4 := (wl_b h1 h2 (k := 1) (by decide)).1
  unfold op_12 f_L_signs f_X9_signs f_X12_signs f_X9_needFamily f_X12_isNoFamily f_X12_isIn
  simp only [e0, e1, e2, e3, e4]
  rfl
theorem s26_n (a : Nat) (b : Nat) (c : Nat) (d : Nat) (h1 : 2147483648 ≤ a) (h2 : a < 4294967296) : good (op_26 a b c d sI) = true := by
  have e0 := (wl_n h1 h2 (k := 0) (by decide)).1
  unfold op_26 f_L_mean f_X9_mean f_X12_mean f_X9_needFamily f_X12_isNoFamily f_X12_isIn
  have e4 := (wl_n h1 h2 (k := 1) (by decide)).1
  simp only [e0, e4]
  rfl
theorem s26_b (a : Nat) (b : Nat) (c : Nat) (d : Nat) (h1 : 3 ≤ a) (h2 : a < 2147483648) : good (op_26 a b c d sI) = true := by
  have e0 := (wl_b h1 h2 (k := 0) (by decide)).1
  have e1 := (wl_b h1 h2 (k := 2) (by decide)).2.1
  have e2 := (wl_e h1 h2).1
  have e3 := (wl_b h1 h2 (k := 2) (by decide)).2.2.1
  have e4 := (wl_b h1 h2 (k := 1) (by decide)).1
  unfold op_26 f_L_mean f_X9_mean f_X12_mean f_X9_needFamily f_X12_isNoFamily f_X12_isIn
  simp only [e0, e1, e2, e3, e4]
  rfl
theorem s13_n (a : Nat) (b : Nat) (c : Nat) (d : Nat) (h1 : 2147483648 ≤ a) (h2 : a < 4294967296) : good (op_13 a b c d sI) = true := by
  have e0 := (wl_n h1 h2 (k := 0) (by decide)).1
  unfold op_13 f_L_alike f_X9_alike f_X12_alike f_X9_needFamily f_X12_isNoFamily f_X12_isIn
  have e4 := (wl_n h1 h2 (k := 1) (by decide)).1
  simp only [e0, e4]
  rfl
theorem s13_b (a : Nat) (b : Nat) (c : Nat) (d : Nat) (h1 : 3 ≤ a) (h2 : a < 2147483648) : good (op_13 a b c d sI) = true := by
  have e0 := (wl_b h1 h2 (k := 0) (by decide)).1
  have e1 := (wl_b h1 h2 (k := 2) (by decide)).2.1
  have e2 := (wl_e h1 h2).1
  have e3 := (wl_b h1 h2 (k := 2) (by decide)).2.2.1
  have e4 := (wl_b h1 h2 (k := 1) (by decide)).1
  unfold op_13 f_L_alike f_X9_alike f_X12_alike f_X9_needFamily f_X12_isNoFamily f_X12_isIn
  simp only [e0, e1, e2, e3, e4]
  rfl
theorem s25_n (a : Nat) (b : Nat) (c : Nat) (d : Nat) (h1 : 2147483648 ≤ a) (h2 : a < 4294967296) : good (op_25 a b c d sI) = true := by
  have e0 := (wl_n h1 h2 (k := 0) (by decide)).1
  unfold op_25 f_L_many f_X9_many f_X12_many f_X12_isIn
  have e4 := (wl_n h1 h2 (k := 1) (by decide)).1
  simp only [e0, e4]
  rfl
theorem s25_b (a : Nat) (b : Nat) (c : Nat) (d : Nat) (h1 : 7 ≤ a) (h2 : a < 2147483648) : good (op_25 a b c d sI) = true := by
  have e0 := (wl_b h1 h2 (k := 0) (by decide)).1
  have e1 := (wl_b h1 h2 (k := 6) (by decide)).2.1
  have e2 := (wl_e h1 h2).1
  have e3 := (wl_b h1 h2 (k := 6) (by decide)).2.2.1
  have e4 := (wl_b h1 h2 (k := 1) (by decide)).1
  unfold op_25 f_L_many f_X9_many f_X12_many f_X12_isIn
  simp only [e0, e1, e2, e3, e4]
  rfl
theorem s1_n (a : Nat) (b : Nat) (c : Nat) (d : Nat) (h1 : 2147483648 ≤ a) (h2 : a < 4294967296) : good (op_1 a b c d sI) = true := by
  have e0 := (wl_n h1 h2 (k := 0) (by decide)).1
  unfold op_1 f_L_map f_X9_map f_X12_map f_X9_needStep f_X12_isIn
  have e4 := (wl_n h1 h2 (k := 1) (by decide)).1
  simp only [e0, e4]
  rfl
theorem s1_b (a : Nat) (b : Nat) (c : Nat) (d : Nat) (h1 : 11 ≤ a) (h2 : a < 2147483648) : good (op_1 a b c d sI) = true := by
  have e0 := (wl_b h1 h2 (k := 0) (by decide)).1
  have e1 := (wl_b h1 h2 (k := 10) (by decide)).2.1
  have e2 := (wl_e h1 h2).1
  have e3 := (wl_b h1 h2 (k := 10) (by decide)).2.2.1
  have e4 := (wl_b h1 h2 (k := 1) (by decide)).1
  unfold op_1 f_L_map f_X9_map f_X12_map f_X9_needStep f_X12_isIn
  simp only [e0, e1, e2, e3, e4]
  rfl
