/-! ===== patterns that are none ===== -/
theorem dz_0 : dz 0 = some 0 := rfl
theorem isO_big : ∀ (j n v1 v2 v3 : Nat), j ≤ 4 → 10 ^ j ≤ v2 → v2 < 2147483648 → lp_X2_isOrder (n + j + 1) v1 v2 v3 j = some 0
  | 0, n, v1, v2, v3, _, h1, h2 => by
    rw [lp_X2_isOrder_s0]
    unfold lb0_X2_isOrder
    rw [show wlt 0 1 = true by decide +kernel, cond_true, weq_ne (c := v2) (b := 0) (by omega) (by decide) (by have : 10 ^ 0 = 1 := rfl; omega)]
    rfl
  | j + 1, n, v1, v2, v3, hj, h1, h2 => by
    have ih := fun v3 => isO_big j n v1 (v2 / 10) v3 (by omega) (by
      have e : 10 ^ (j + 1) = 10 ^ j * 10 := Nat.pow_succ ..
      rw [e] at h1
      exact (Nat.le_div_iff_mul_le (by decide)).mpr h1) (Nat.lt_of_le_of_lt (Nat.div_le_self _ _) h2)
    rw [show n + (j + 1) + 1 = (n + j + 1) + 1 from rfl, lp_X2_isOrder_s0]
    unfold lb0_X2_isOrder
    rw [show wlt (j + 1) 1 = false from (wl_e (a := j + 1) (n := 1) (by omega) (by omega)).1, cond_false, dl_2, dl_2, dl_2, dl_2]
    have ed : wdiv v2 10 = v2 / 10 := by
      rw [wdiv_pp (wpos_iff.mpr (by omega)) (by decide +kernel)]
      show v2 % 4294967296 / 10 = _
      rw [Nat.mod_eq_of_lt (by omega)]
    have ea : wadd (j + 1) 4294967295 = j := by
      show (j + 1 + 4294967295) % 4294967296 = j
      omega
    rw [ed, ea, ih]
    cases wlt (wrem v2 10) 1 with
    | true => rfl
    | false =>
      rw [cond_false]
      cases wlt v1 (wrem v2 10) with
      | true => rfl
      | false =>
        rw [cond_false]
        cases (!weq (wand (wshr v3 (wrem v2 10)) 1) 1) with
        | true => rfl
        | false => rfl
theorem isQ_big : ∀ (j n v1 v2 v3 v4 : Nat), v4 + j = v1 → v1 ≤ 4 → 10 ^ j ≤ v3 → v3 < 2147483648 → lp_X12_isOrder (n + j + 1) v1 v2 v3 v4 = some 0
  | 0, n, v1, v2, v3, v4, hj, hv, h1, h2 => by
    rw [lp_X12_isOrder_s0]
    unfold lb0_X12_isOrder
    have e1 : wle v1 v4 = true := by
      have : v1 = v4 := by omega
      subst this
      unfold wle
      exact Nat.ble_eq.mpr (Nat.le_refl _)
    rw [e1, cond_true, weq_ne (c := v3) (b := 0) (by omega) (by decide) (by have : 10 ^ 0 = 1 := rfl; omega)]
    rfl
  | j + 1, n, v1, v2, v3, v4, hj, hv, h1, h2 => by
    have ih := fun v2 => isQ_big j n v1 v2 (v3 / 10) (v4 + 1) (by omega) hv (by
      have e : 10 ^ (j + 1) = 10 ^ j * 10 := Nat.pow_succ ..
      rw [e] at h1
      exact (Nat.le_div_iff_mul_le (by decide)).mpr h1) (Nat.lt_of_le_of_lt (Nat.div_le_self _ _) h2)
    rw [show n + (j + 1) + 1 = (n + j + 1) + 1 from rfl, lp_X12_isOrder_s0]
    unfold lb0_X12_isOrder
    have e1 : wle v1 v4 = false := by
      unfold wle
      rw [← Bool.not_eq_true, Nat.ble_eq]
      show ¬ ((v1 + 2147483648) % 4294967296 ≤ (v4 + 2147483648) % 4294967296)
      omega
    have ed : wdiv v3 10 = v3 / 10 := by
      rw [wdiv_pp (wpos_iff.mpr (by omega)) (by decide +kernel)]
      show v3 % 4294967296 / 10 = _
      rw [Nat.mod_eq_of_lt (by omega)]
    have ea : wadd v4 1 = v4 + 1 := by
      show (v4 + 1) % 4294967296 = v4 + 1
      omega
    rw [e1, cond_false, dl_2, dl_2, dl_2, ed, ea, ih]
noncomputable def okP (b : Nat) : Bool := decide (f_X9_patternLength b = some 4294967295) && decide (f_X12_digits b = some 0)
theorem okP_of {b : Nat} (h1 : f_X9_patternLength b = some 4294967295) (h2 : f_X12_digits b = some 0) : okP b = true := by
  unfold okP
  rw [Bool.and_eq_true, decide_eq_true_iff, decide_eq_true_iff]
  exact ⟨h1, h2⟩
theorem okP_spec {b : Nat} (h : okP b = true) : f_X9_patternLength b = some 4294967295 ∧ f_X12_digits b = some 0 := by
  unfold okP at h
  rw [Bool.and_eq_true, decide_eq_true_iff, decide_eq_true_iff] at h
  exact h
theorem neg_rem {b q : Nat} (h1 : 2147483648 ≤ b) (h2 : b < 4294967296) (hq1 : 10 * q ≤ 4294967296 - b) (hq2 : 4294967296 - b < 10 * q + 10) : ((b % 4294967296 + 4294967296 - ((4294967296 - q) % 4294967296 * 10 % 4294967296) % 4294967296) % 4294967296 + 2147483648) % 4294967296 + 1 ≤ (1 + 2147483648) % 4294967296 := by
  have key : ((4294967296 - q) % 4294967296 * 10 % 4294967296 % 4294967296 = 0 ∧ q = 0) ∨ (4294967296 - q) % 4294967296 * 10 % 4294967296 % 4294967296 = 4294967296 - 10 * q := by
    by_cases hq : q = 0
    · subst hq
      exact Or.inl ⟨by decide +kernel, rfl⟩
    · refine Or.inr ?_
      omega
  generalize (4294967296 - q) % 4294967296 * 10 % 4294967296 % 4294967296 = X at key ⊢
  omega
theorem pl_of {b : Nat} (h : ∀ L, 2 ≤ L → L ≤ 4 → f_X2_isOrder b L = some 0) : f_X9_patternLength b = some 4294967295 := by
  unfold f_X9_patternLength
  have stp : ∀ n L, 2 ≤ L → L ≤ 4 → lp_X9_patternLength (n + 1) b L = lp_X9_patternLength n b (L + 1) := fun n L h2 h4 => by
    rw [lp_X9_patternLength_s0]
    unfold lb0_X9_patternLength
    have e1 : wlt 4 L = false := by
      unfold wlt
      rw [← Bool.not_eq_true, Nat.ble_eq]
      show ¬ ((4 + 2147483648) % 4294967296 + 1 ≤ (L + 2147483648) % 4294967296)
      omega
    have ea : wadd L 1 = L + 1 := by
      show (L + 1) % 4294967296 = L + 1
      omega
    rw [e1, cond_false, h L h2 h4, ob_s2, show weq 0 0 = true from rfl, cond_true, dl_2, ea]
  have gen : ∀ n, lp_X9_patternLength (n + 4) b 2 = some 4294967295 := fun n => by
    rw [show n + 4 = (n + 3) + 1 from rfl, stp (n + 3) 2 (by decide) (by decide), show 2 + 1 = 3 from rfl, show n + 3 = (n + 2) + 1 from rfl, stp (n + 2) 3 (by decide) (by decide), show 3 + 1 = 4 from rfl, show n + 2 = (n + 1) + 1 from rfl, stp (n + 1) 4 (by decide) (by decide), lp_X9_patternLength_s0]
    unfold lb0_X9_patternLength
    rw [show wlt 4 (4 + 1) = true by decide +kernel, cond_true]
  rw [show dF = 99996 + 4 from rfl]
  exact gen 99996
theorem dg_of {b : Nat} (h : wle b 0 = true ∨ ∀ L, 2 ≤ L → L ≤ 4 → f_X12_isOrder b L = some 0) : f_X12_digits b = some 0 := by
  unfold f_X12_digits
  have stp : ∀ n L, 2 ≤ L → L ≤ 4 → lp_X12_digits (n + 1) b L = lp_X12_digits n b (L + 1) := fun n L h2 h4 => by
    rw [lp_X12_digits_s0]
    unfold lb0_X12_digits
    have e1 : wlt 4 L = false := by
      unfold wlt
      rw [← Bool.not_eq_true, Nat.ble_eq]
      show ¬ ((4 + 2147483648) % 4294967296 + 1 ≤ (L + 2147483648) % 4294967296)
      omega
    have ea : wadd L 1 = L + 1 := by
      show (L + 1) % 4294967296 = L + 1
      omega
    rw [e1, cond_false]
    rcases h with h | h
    · rw [h, cond_true, dl_2, ea]
    · rw [h L h2 h4, ob_s2, show weq 0 0 = true from rfl, cond_true, dl_2, ea]
      cases wle b 0 <;> rfl
  have gen : ∀ n, lp_X12_digits (n + 4) b 2 = some 0 := fun n => by
    rw [show n + 4 = (n + 3) + 1 from rfl, stp (n + 3) 2 (by decide) (by decide), show 2 + 1 = 3 from rfl, show n + 3 = (n + 2) + 1 from rfl, stp (n + 2) 3 (by decide) (by decide), show 3 + 1 = 4 from rfl, show n + 2 = (n + 1) + 1 from rfl, stp (n + 1) 4 (by decide) (by decide), lp_X12_digits_s0]
    unfold lb0_X12_digits
    rw [show wlt 4 (4 + 1) = true by decide +kernel, cond_true]
  rw [show dF = 99996 + 4 from rfl]
  exact gen 99996
theorem okP_big {b : Nat} (h1 : 10000 ≤ b) (h2 : b < 2147483648) : okP b = true := by
  refine okP_of (pl_of fun L l2 l4 => ?_) (dg_of (Or.inr fun L l2 l4 => ?_))
  · unfold f_X2_isOrder
    rcases (show L = 2 ∨ L = 3 ∨ L = 4 by omega) with rfl | rfl | rfl
    · exact isO_big 2 99997 _ _ _ (by decide) (by omega) h2
    · exact isO_big 3 99996 _ _ _ (by decide) (by omega) h2
    · exact isO_big 4 99995 _ _ _ (by decide) (by omega) h2
  · unfold f_X12_isOrder
    rcases (show L = 2 ∨ L = 3 ∨ L = 4 by omega) with rfl | rfl | rfl
    · exact isQ_big 2 99997 _ _ _ _ (by decide) (by decide) (by omega) h2
    · exact isQ_big 3 99996 _ _ _ _ (by decide) (by decide) (by omega) h2
    · exact isQ_big 4 99995 _ _ _ _ (by decide) (by decide) (by omega) h2
theorem okP_neg {b : Nat} (h1 : 2147483648 ≤ b) (h2 : b < 4294967296) : okP b = true := by
  refine okP_of (pl_of fun L l2 l4 => ?_) (dg_of (Or.inl (wl_n h1 h2 (k := 0) (by decide)).2.2.1))
  unfold f_X2_isOrder
  have er : wlt (wrem b 10) 1 = true := by
    have e0 : wpos b = false := wpos_no.mpr (by omega)
    rw [wrem_nn (by rw [e0]; rfl)]
    have ed : wdiv b 10 = (4294967296 - (4294967296 - b) / 10) % 4294967296 := by
      unfold wdiv
      rw [e0, cond_false, show wpos 10 = true by decide +kernel, cond_true]
      show (4294967296 - (4294967296 - b % 4294967296) / 10 % 4294967296) % 4294967296 = _
      omega
    rw [ed, wsub_def, wmul_def]
    unfold wlt
    rw [Nat.ble_eq]
    exact neg_rem h1 h2 (Nat.mul_div_le _ _) (by omega)
  rw [show dF = 99999 + 1 from rfl, lp_X2_isOrder_s0]
  unfold lb0_X2_isOrder
  have e1 : wlt L 1 = false := (wl_e (a := L) (n := 1) (by omega) (by omega)).1
  rw [e1, cond_false, dl_2, er, cond_true]
  rfl
set_option maxRecDepth 100000 in
theorem okP_0 : (List.range 1250).all (fun i => okP (0 + i) || vpat.contains (0 + i)) = true := by decide +kernel
set_option maxRecDepth 100000 in
theorem okP_1250 : (List.range 1250).all (fun i => okP (1250 + i) || vpat.contains (1250 + i)) = true := by decide +kernel
set_option maxRecDepth 100000 in
theorem okP_2500 : (List.range 1250).all (fun i => okP (2500 + i) || vpat.contains (2500 + i)) = true := by decide +kernel
set_option maxRecDepth 100000 in
theorem okP_3750 : (List.range 1250).all (fun i => okP (3750 + i) || vpat.contains (3750 + i)) = true := by decide +kernel
set_option maxRecDepth 100000 in
theorem okP_5000 : (List.range 1250).all (fun i => okP (5000 + i) || vpat.contains (5000 + i)) = true := by decide +kernel
set_option maxRecDepth 100000 in
theorem okP_6250 : (List.range 1250).all (fun i => okP (6250 + i) || vpat.contains (6250 + i)) = true := by decide +kernel
set_option maxRecDepth 100000 in
theorem okP_7500 : (List.range 1250).all (fun i => okP (7500 + i) || vpat.contains (7500 + i)) = true := by decide +kernel
set_option maxRecDepth 100000 in
theorem okP_8750 : (List.range 1250).all (fun i => okP (8750 + i) || vpat.contains (8750 + i)) = true := by decide +kernel
theorem okP_all {b : Nat} (hb : b < 4294967296) : okP b = true ∨ b ∈ vpat := by
  by_cases h1 : b < 10000
  · have key : ∀ k, (List.range 1250).all (fun i => okP (k + i) || vpat.contains (k + i)) = true → k ≤ b → b < k + 1250 → okP b = true ∨ b ∈ vpat := fun k hk h2 h3 => by
      have h4 := List.all_eq_true.mp hk (b - k) (List.mem_range.mpr (by omega))
      rw [show k + (b - k) = b by omega, Bool.or_eq_true] at h4
      rcases h4 with h4 | h4
      · exact Or.inl h4
      · exact Or.inr (List.contains_iff_mem.mp h4)
    by_cases c0 : b < 1250
    · exact key 0 okP_0 (by omega) (by omega)
    by_cases c1250 : b < 2500
    · exact key 1250 okP_1250 (by omega) (by omega)
    by_cases c2500 : b < 3750
    · exact key 2500 okP_2500 (by omega) (by omega)
    by_cases c3750 : b < 5000
    · exact key 3750 okP_3750 (by omega) (by omega)
    by_cases c5000 : b < 6250
    · exact key 5000 okP_5000 (by omega) (by omega)
    by_cases c6250 : b < 7500
    · exact key 6250 okP_6250 (by omega) (by omega)
    by_cases c7500 : b < 8750
    · exact key 7500 okP_7500 (by omega) (by omega)
    by_cases c8750 : b < 10000
    · exact key 8750 okP_8750 (by omega) (by omega)
    · omega
  · by_cases h2 : b < 2147483648
    · exact Or.inl (okP_big (by omega) h2)
    · exact Or.inl (okP_neg (by omega) hb)
theorem v14_0 {b : Nat} (h : okP b = true) (c d : Nat) : good (op_14 0 b c d sI) = true := by
  obtain ⟨h1, h2⟩ := okP_spec h
  unfold op_14 f_L_contains f_X9_contains f_X12_contains
  rw [h1, h2]
  rfl
theorem v14_1 {b : Nat} (h : okP b = true) (c d : Nat) : good (op_14 1 b c d sI) = true := by
  obtain ⟨h1, h2⟩ := okP_spec h
  unfold op_14 f_L_contains f_X9_contains f_X12_contains
  rw [h1, h2]
  rfl
theorem v14_2 {b : Nat} (h : okP b = true) (c d : Nat) : good (op_14 2 b c d sI) = true := by
  obtain ⟨h1, h2⟩ := okP_spec h
  unfold op_14 f_L_contains f_X9_contains f_X12_contains
  rw [h1, h2]
  rfl
theorem v14_3 {b : Nat} (h : okP b = true) (c d : Nat) : good (op_14 3 b c d sI) = true := by
  obtain ⟨h1, h2⟩ := okP_spec h
  unfold op_14 f_L_contains f_X9_contains f_X12_contains
  rw [h1, h2]
  rfl
theorem v14_4 {b : Nat} (h : okP b = true) (c d : Nat) : good (op_14 4 b c d sI) = true := by
  obtain ⟨h1, h2⟩ := okP_spec h
  unfold op_14 f_L_contains f_X9_contains f_X12_contains
  rw [h1, h2]
  rfl
theorem v14_5 {b : Nat} (h : okP b = true) (c d : Nat) : good (op_14 5 b c d sI) = true := by
  obtain ⟨h1, h2⟩ := okP_spec h
  unfold op_14 f_L_contains f_X9_contains f_X12_contains
  rw [h1, h2]
  rfl
