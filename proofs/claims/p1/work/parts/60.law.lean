def lawD : Nat := 40
/-! ===== the law answers 1 ===== -/
theorem e_0 (a b c d : Nat) : op_0 a b c d = op_0 a 0 0 0 := rfl
theorem e_1 (a b c d : Nat) : op_1 a b c d = op_1 a 0 0 0 := rfl
theorem e_3 (a b c d : Nat) : op_3 a b c d = op_3 a b 0 0 := rfl
theorem e_7 (a b c d : Nat) : op_7 a b c d = op_7 a 0 0 0 := rfl
theorem e_8 (a b c d : Nat) : op_8 a b c d = op_8 a b 0 0 := rfl
theorem e_9 (a b c d : Nat) : op_9 a b c d = op_9 a b 0 0 := rfl
theorem e_10 (a b c d : Nat) : op_10 a b c d = op_10 a b c 0 := rfl
theorem e_11 (a b c d : Nat) : op_11 a b c d = op_11 a b c 0 := rfl
theorem e_12 (a b c d : Nat) : op_12 a b c d = op_12 a b 0 0 := rfl
theorem e_14 (a b c d : Nat) : op_14 a b c d = op_14 a b 0 0 := rfl
theorem e_15 (a b c d : Nat) : op_15 a b c d = op_15 a 0 0 0 := rfl
theorem e_25 (a b c d : Nat) : op_25 a b c d = op_25 a 0 0 0 := rfl
theorem e_26 (a b c d : Nat) : op_26 a b c d = op_26 a b 0 0 := rfl
theorem e_27 (a b c d : Nat) : op_27 a b c d = op_27 0 0 0 0 := rfl
theorem g_0 {a b c d : Nat} (ha : a < 4294967296) (hb : b < 4294967296) (hc : c < 4294967296) (hd : d < 4294967296) : good (op_0 a b c d sI) = true := by
  rcases wl_c ha 7 (by decide) with q | q | ⟨q, q2⟩
  · rw [e_0]
    rcases (show a < 5 ∨ a = 5 ∨ a = 6 by omega) with z | rfl | rfl
    · exact cl_0 a z
    · exact sz_5
    · exact sz_6
  · exact u0_n a b c d q ha
  · exact u0_b a b c d q q2
theorem g_1 {a b c d : Nat} (ha : a < 4294967296) (hb : b < 4294967296) (hc : c < 4294967296) (hd : d < 4294967296) : good (op_1 a b c d sI) = true := by
  rcases wl_c ha 11 (by decide) with q | q | ⟨q, q2⟩
  · rw [e_1]; exact cl_1 a q
  · exact s1_n a b c d q ha
  · exact s1_b a b c d q q2
theorem g_2 {a b c d : Nat} (ha : a < 4294967296) (hb : b < 4294967296) (hc : c < 4294967296) (hd : d < 4294967296) : good (op_2 a b c d sI) = true := by
  exact r2 a b c d ha
theorem g_4 {a b c d : Nat} (ha : a < 4294967296) (hb : b < 4294967296) (hc : c < 4294967296) (hd : d < 4294967296) : good (op_4 a b c d sI) = true := by
  exact r4 a b c d ha
theorem g_16 {a b c d : Nat} (ha : a < 4294967296) (hb : b < 4294967296) (hc : c < 4294967296) (hd : d < 4294967296) : good (op_16 a b c d sI) = true := by
  exact r16 a b c d ha
theorem g_17 {a b c d : Nat} (ha : a < 4294967296) (hb : b < 4294967296) (hc : c < 4294967296) (hd : d < 4294967296) : good (op_17 a b c d sI) = true := by
  exact r17 a b c d ha
theorem g_18 {a b c d : Nat} (ha : a < 4294967296) (hb : b < 4294967296) (hc : c < 4294967296) (hd : d < 4294967296) : good (op_18 a b c d sI) = true := by
  exact r18 a b c d ha
theorem g_19 {a b c d : Nat} (ha : a < 4294967296) (hb : b < 4294967296) (hc : c < 4294967296) (hd : d < 4294967296) : good (op_19 a b c d sI) = true := by
  exact r19 a b c d ha
theorem g_20 {a b c d : Nat} (ha : a < 4294967296) (hb : b < 4294967296) (hc : c < 4294967296) (hd : d < 4294967296) : good (op_20 a b c d sI) = true := by
  exact r20 a b c d ha
theorem g_21 {a b c d : Nat} (ha : a < 4294967296) (hb : b < 4294967296) (hc : c < 4294967296) (hd : d < 4294967296) : good (op_21 a b c d sI) = true := by
  exact r21 a b c d ha
theorem g_22 {a b c d : Nat} (ha : a < 4294967296) (hb : b < 4294967296) (hc : c < 4294967296) (hd : d < 4294967296) : good (op_22 a b c d sI) = true := by
  exact r22 a b c d ha
theorem g_5 {a b c d : Nat} (ha : a < 4294967296) (hb : b < 4294967296) (hc : c < 4294967296) (hd : d < 4294967296) : good (op_5 a b c d sI) = true := by
  exact r5 a b c d ha
theorem g_23 {a b c d : Nat} (ha : a < 4294967296) (hb : b < 4294967296) (hc : c < 4294967296) (hd : d < 4294967296) : good (op_23 a b c d sI) = true := by
  exact r23 a b c d ha
theorem g_6 {a b c d : Nat} (ha : a < 4294967296) (hb : b < 4294967296) (hc : c < 4294967296) (hd : d < 4294967296) : good (op_6 a b c d sI) = true := by
  exact r6 a b c d ha
theorem g_24 {a b c d : Nat} (ha : a < 4294967296) (hb : b < 4294967296) (hc : c < 4294967296) (hd : d < 4294967296) : good (op_24 a b c d sI) = true := by
  exact r24 a b c d ha
theorem m_3 {b : Nat} (hb : b < 4294967296) (h : b ∉ ([42, 44, 50, 52, 56, 123, 132, 213, 231, 312, 321] : List Nat)) : (∀ c ∈ [42, 44, 50, 52, 56], weq c b = false) ∧ ∀ c ∈ [123, 132, 213, 231, 312, 321], weq c b = false := by
  refine ⟨fun c hc => weq_ne ?_ hb ?_, fun c hc => weq_ne ?_ hb ?_⟩
  · exact (show ∀ c ∈ ([42, 44, 50, 52, 56] : List Nat), c < 4294967296 by decide) c hc
  · rintro rfl; exact h ((show ∀ c ∈ ([42, 44, 50, 52, 56] : List Nat), c ∈ ([42, 44, 50, 52, 56, 123, 132, 213, 231, 312, 321] : List Nat) by decide) c hc)
  · exact (show ∀ c ∈ ([123, 132, 213, 231, 312, 321] : List Nat), c < 4294967296 by decide) c hc
  · rintro rfl; exact h ((show ∀ c ∈ ([123, 132, 213, 231, 312, 321] : List Nat), c ∈ ([42, 44, 50, 52, 56, 123, 132, 213, 231, 312, 321] : List Nat) by decide) c hc)
theorem g_3 {a b c d : Nat} (ha : a < 4294967296) (hb : b < 4294967296) (hc : c < 4294967296) (hd : d < 4294967296) : good (op_3 a b c d sI) = true := by
  rcases wl_c ha 3 (by decide) with q | q | ⟨q, q2⟩
  · by_cases hm : b ∈ ([42, 44, 50, 52, 56, 123, 132, 213, 231, 312, 321] : List Nat)
    · rw [e_3]; exact cl_3 a q b hm
    · rcases (show a = 0 ∨ a = 1 ∨ a = 2 by omega) with rfl | rfl | rfl
      · exact v3_0 (m_3 hb hm).1 c d
      · exact v3_1 (m_3 hb hm).1 c d
      · exact v3_2 (m_3 hb hm).2 c d
  · exact s3_n a b c d q ha
  · exact s3_b a b c d q q2
theorem m_9 {b : Nat} (hb : b < 4294967296) (h : b ∉ ([42, 44, 50, 52, 56, 123, 132, 213, 231, 312, 321] : List Nat)) : (∀ c ∈ [42, 44, 50, 52, 56], weq c b = false) ∧ ∀ c ∈ [123, 132, 213, 231, 312, 321], weq c b = false := by
  refine ⟨fun c hc => weq_ne ?_ hb ?_, fun c hc => weq_ne ?_ hb ?_⟩
  · exact (show ∀ c ∈ ([42, 44, 50, 52, 56] : List Nat), c < 4294967296 by decide) c hc
  · rintro rfl; exact h ((show ∀ c ∈ ([42, 44, 50, 52, 56] : List Nat), c ∈ ([42, 44, 50, 52, 56, 123, 132, 213, 231, 312, 321] : List Nat) by decide) c hc)
  · exact (show ∀ c ∈ ([123, 132, 213, 231, 312, 321] : List Nat), c < 4294967296 by decide) c hc
  · rintro rfl; exact h ((show ∀ c ∈ ([123, 132, 213, 231, 312, 321] : List Nat), c ∈ ([42, 44, 50, 52, 56, 123, 132, 213, 231, 312, 321] : List Nat) by decide) c hc)
theorem g_9 {a b c d : Nat} (ha : a < 4294967296) (hb : b < 4294967296) (hc : c < 4294967296) (hd : d < 4294967296) : good (op_9 a b c d sI) = true := by
  rcases wl_c ha 3 (by decide) with q | q | ⟨q, q2⟩
  · by_cases hm : b ∈ ([42, 44, 50, 52, 56, 123, 132, 213, 231, 312, 321] : List Nat)
    · rw [e_9]; exact cl_9 a q b hm
    · rcases (show a = 0 ∨ a = 1 ∨ a = 2 by omega) with rfl | rfl | rfl
      · exact v9_0 (m_9 hb hm).1 c d
      · exact v9_1 (m_9 hb hm).1 c d
      · exact v9_2 (m_9 hb hm).2 c d
  · exact s9_n a b c d q ha
  · exact s9_b a b c d q q2
theorem g_7 {a b c d : Nat} (ha : a < 4294967296) (hb : b < 4294967296) (hc : c < 4294967296) (hd : d < 4294967296) : good (op_7 a b c d sI) = true := by
  rcases wl_c ha 3 (by decide) with q | q | ⟨q, q2⟩
  · rw [e_7]; exact cl_7 a q
  · exact s7_n a b c d q ha
  · exact s7_b a b c d q q2
theorem g_8 {a b c d : Nat} (ha : a < 4294967296) (hb : b < 4294967296) (hc : c < 4294967296) (hd : d < 4294967296) : good (op_8 a b c d sI) = true := by
  rcases wl_c ha 3 (by decide) with q | q | ⟨q, q2⟩
  · by_cases hm : b < 6
    · rw [e_8]; exact cl_8 a q b hm
    · rcases (show a = 0 ∨ a = 1 ∨ a = 2 by omega) with rfl | rfl | rfl
      · exact t8_0 b c d hb (by omega)
      · exact t8_1 b c d hb (by omega)
      · exact t8_2 b c d hb (by omega)
  · exact s8_n a b c d q ha
  · exact s8_b a b c d q q2
theorem g_10 {a b c d : Nat} (ha : a < 4294967296) (hb : b < 4294967296) (hc : c < 4294967296) (hd : d < 4294967296) : good (op_10 a b c d sI) = true := by
  rcases wl_c ha 3 (by decide) with q | q | ⟨q, q2⟩
  · by_cases hm : c < 6
    · by_cases hw : b < 4
      · rw [e_10]; exact cl_10 a q b hw c hm
      · rcases (show a = 0 ∨ a = 1 ∨ a = 2 by omega) with rfl | rfl | rfl
        · rcases (show c = 0 ∨ c = 1 ∨ c = 2 ∨ c = 3 ∨ c = 4 ∨ c = 5 by omega) with rfl | rfl | rfl | rfl | rfl | rfl
          · rcases wl_c hb 4 (by decide) with q | q | ⟨q, q2⟩
            · exact absurd q hw
            · exact u10_0_0_n b d q hb
            · exact u10_0_0_b b d q q2
          · rcases wl_c hb 4 (by decide) with q | q | ⟨q, q2⟩
            · exact absurd q hw
            · exact u10_0_1_n b d q hb
            · exact u10_0_1_b b d q q2
          · rcases wl_c hb 4 (by decide) with q | q | ⟨q, q2⟩
            · exact absurd q hw
            · exact u10_0_2_n b d q hb
            · exact u10_0_2_b b d q q2
          · rcases wl_c hb 4 (by decide) with q | q | ⟨q, q2⟩
            · exact absurd q hw
            · exact u10_0_3_n b d q hb
            · exact u10_0_3_b b d q q2
          · rcases wl_c hb 4 (by decide) with q | q | ⟨q, q2⟩
            · exact absurd q hw
            · exact u10_0_4_n b d q hb
            · exact u10_0_4_b b d q q2
          · exact t10_0 b 5 d (by decide) (by decide)
        · rcases (show c = 0 ∨ c = 1 ∨ c = 2 ∨ c = 3 ∨ c = 4 ∨ c = 5 by omega) with rfl | rfl | rfl | rfl | rfl | rfl
          · rcases wl_c hb 4 (by decide) with q | q | ⟨q, q2⟩
            · exact absurd q hw
            · exact u10_1_0_n b d q hb
            · exact u10_1_0_b b d q q2
          · rcases wl_c hb 4 (by decide) with q | q | ⟨q, q2⟩
            · exact absurd q hw
            · exact u10_1_1_n b d q hb
            · exact u10_1_1_b b d q q2
          · rcases wl_c hb 4 (by decide) with q | q | ⟨q, q2⟩
            · exact absurd q hw
            · exact u10_1_2_n b d q hb
            · exact u10_1_2_b b d q q2
          · rcases wl_c hb 4 (by decide) with q | q | ⟨q, q2⟩
            · exact absurd q hw
            · exact u10_1_3_n b d q hb
            · exact u10_1_3_b b d q q2
          · rcases wl_c hb 4 (by decide) with q | q | ⟨q, q2⟩
            · exact absurd q hw
            · exact u10_1_4_n b d q hb
            · exact u10_1_4_b b d q q2
          · exact t10_1 b 5 d (by decide) (by decide)
        · rcases (show c = 0 ∨ c = 1 ∨ c = 2 ∨ c = 3 ∨ c = 4 ∨ c = 5 by omega) with rfl | rfl | rfl | rfl | rfl | rfl
          · rcases wl_c hb 4 (by decide) with q | q | ⟨q, q2⟩
            · exact absurd q hw
            · exact u10_2_0_n b d q hb
            · exact u10_2_0_b b d q q2
          · rcases wl_c hb 4 (by decide) with q | q | ⟨q, q2⟩
            · exact absurd q hw
            · exact u10_2_1_n b d q hb
            · exact u10_2_1_b b d q q2
          · rcases wl_c hb 4 (by decide) with q | q | ⟨q, q2⟩
            · exact absurd q hw
            · exact u10_2_2_n b d q hb
            · exact u10_2_2_b b d q q2
          · rcases wl_c hb 4 (by decide) with q | q | ⟨q, q2⟩
            · exact absurd q hw
            · exact u10_2_3_n b d q hb
            · exact u10_2_3_b b d q q2
          · rcases wl_c hb 4 (by decide) with q | q | ⟨q, q2⟩
            · exact absurd q hw
            · exact u10_2_4_n b d q hb
            · exact u10_2_4_b b d q q2
          · rcases wl_c hb 4 (by decide) with q | q | ⟨q, q2⟩
            · exact absurd q hw
            · exact u10_2_5_n b d q hb
            · exact u10_2_5_b b d q q2
    · rcases (show a = 0 ∨ a = 1 ∨ a = 2 by omega) with rfl | rfl | rfl
      · exact t10_0 b c d hc (by omega)
      · exact t10_1 b c d hc (by omega)
      · exact t10_2 b c d hc (by omega)
  · exact s10_n a b c d q ha
  · exact s10_b a b c d q q2
theorem g_11 {a b c d : Nat} (ha : a < 4294967296) (hb : b < 4294967296) (hc : c < 4294967296) (hd : d < 4294967296) : good (op_11 a b c d sI) = true := by
  rcases wl_c ha 3 (by decide) with q | q | ⟨q, q2⟩
  · rcases (show a = 0 ∨ a = 1 ∨ a = 2 by omega) with rfl | rfl | rfl
    · rcases wl_c hb 4 (by decide) with q | q | ⟨q, q2⟩
      · rcases (show b = 0 ∨ b = 1 ∨ b = 2 ∨ b = 3 by omega) with rfl | rfl | rfl | rfl
        · by_cases hm : c < 10
          · rw [e_11]; exact cl_11_0_0 c hm
          · exact v11_0_0 hc hm d
        · by_cases hm : c < 10
          · rw [e_11]; exact cl_11_0_1 c hm
          · exact v11_0_1 hc hm d
        · by_cases hm : c < 10
          · rw [e_11]; exact cl_11_0_2 c hm
          · exact v11_0_2 hc hm d
        · by_cases hm : c < 10
          · rw [e_11]; exact cl_11_0_3 c hm
          · exact v11_0_3 hc hm d
      · exact u11_0_n b c d q hb
      · exact u11_0_b b c d q q2
    · rcases wl_c hb 4 (by decide) with q | q | ⟨q, q2⟩
      · rcases (show b = 0 ∨ b = 1 ∨ b = 2 ∨ b = 3 by omega) with rfl | rfl | rfl | rfl
        · by_cases hm : c < 10
          · rw [e_11]; exact cl_11_1_0 c hm
          · exact v11_1_0 hc hm d
        · by_cases hm : c < 10
          · rw [e_11]; exact cl_11_1_1 c hm
          · exact v11_1_1 hc hm d
        · by_cases hm : c < 10
          · rw [e_11]; exact cl_11_1_2 c hm
          · exact v11_1_2 hc hm d
        · by_cases hm : c < 10
          · rw [e_11]; exact cl_11_1_3 c hm
          · exact v11_1_3 hc hm d
      · exact u11_1_n b c d q hb
      · exact u11_1_b b c d q q2
    · rcases wl_c hb 4 (by decide) with q | q | ⟨q, q2⟩
      · rcases (show b = 0 ∨ b = 1 ∨ b = 2 ∨ b = 3 by omega) with rfl | rfl | rfl | rfl
        · by_cases hm : c < 10
          · rw [e_11]; exact cl_11_2_0 c hm
          · exact v11_2_0 hc hm d
        · by_cases hm : c < 10
          · rw [e_11]; exact cl_11_2_1 c hm
          · exact v11_2_1 hc hm d
        · by_cases hm : c < 10
          · rw [e_11]; exact cl_11_2_2 c hm
          · exact v11_2_2 hc hm d
        · by_cases hm : c < 10
          · rw [e_11]; exact cl_11_2_3 c hm
          · exact v11_2_3 hc hm d
      · exact u11_2_n b c d q hb
      · exact u11_2_b b c d q q2
  · exact s11_n a b c d q ha
  · exact s11_b a b c d q q2
theorem g_12 {a b c d : Nat} (ha : a < 4294967296) (hb : b < 4294967296) (hc : c < 4294967296) (hd : d < 4294967296) : good (op_12 a b c d sI) = true := by
  rcases wl_c ha 3 (by decide) with q | q | ⟨q, q2⟩
  · rcases wl_c hb 4 (by decide) with z | z | ⟨z, z2⟩
    · rw [e_12]; exact cl_12 a q b z
    · rcases (show a = 0 ∨ a = 1 ∨ a = 2 by omega) with rfl | rfl | rfl
      · exact u12_0_n b c d z hb
      · exact u12_1_n b c d z hb
      · exact u12_2_n b c d z hb
    · rcases (show a = 0 ∨ a = 1 ∨ a = 2 by omega) with rfl | rfl | rfl
      · exact u12_0_b b c d z z2
      · exact u12_1_b b c d z z2
      · exact u12_2_b b c d z z2
  · exact s12_n a b c d q ha
  · exact s12_b a b c d q q2
theorem g_26 {a b c d : Nat} (ha : a < 4294967296) (hb : b < 4294967296) (hc : c < 4294967296) (hd : d < 4294967296) : good (op_26 a b c d sI) = true := by
  rcases wl_c ha 3 (by decide) with q | q | ⟨q, q2⟩
  · rcases wl_c hb 4 (by decide) with z | z | ⟨z, z2⟩
    · rw [e_26]; exact cl_26 a q b z
    · rcases (show a = 0 ∨ a = 1 ∨ a = 2 by omega) with rfl | rfl | rfl
      · exact u26_0_n b c d z hb
      · exact u26_1_n b c d z hb
      · exact u26_2_n b c d z hb
    · rcases (show a = 0 ∨ a = 1 ∨ a = 2 by omega) with rfl | rfl | rfl
      · exact u26_0_b b c d z z2
      · exact u26_1_b b c d z z2
      · exact u26_2_b b c d z z2
  · exact s26_n a b c d q ha
  · exact s26_b a b c d q q2
theorem g_13 {a b c d : Nat} (ha : a < 4294967296) (hb : b < 4294967296) (hc : c < 4294967296) (hd : d < 4294967296) : good (op_13 a b c d sI) = true := by
  rcases wl_c ha 3 (by decide) with q | q | ⟨q, q2⟩
  · rcases (show a = 0 ∨ a = 1 ∨ a = 2 by omega) with rfl | rfl | rfl
    · rcases wl_c hc 3 (by decide) with z | z | ⟨z, z2⟩
      · rcases wl_c hb 4 (by decide) with y | y | ⟨y, y2⟩
        · rcases wl_c hd 4 (by decide) with x | x | ⟨x, x2⟩
          · rcases (show b = 0 ∨ b = 1 ∨ b = 2 ∨ b = 3 by omega) with rfl | rfl | rfl | rfl
            · exact cl_13_0_0 c z d x
            · exact cl_13_0_1 c z d x
            · exact cl_13_0_2 c z d x
            · exact cl_13_0_3 c z d x
          · rcases (show c = 0 ∨ c = 1 ∨ c = 2 by omega) with rfl | rfl | rfl
            · rcases (show b = 0 ∨ b = 1 ∨ b = 2 ∨ b = 3 by omega) with rfl | rfl | rfl | rfl
              · exact u13_0_0_0_n d x hd
              · exact u13_0_0_1_n d x hd
              · exact u13_0_0_2_n d x hd
              · exact u13_0_0_3_n d x hd
            · rcases (show b = 0 ∨ b = 1 ∨ b = 2 ∨ b = 3 by omega) with rfl | rfl | rfl | rfl
              · exact u13_0_1_0_n d x hd
              · exact u13_0_1_1_n d x hd
              · exact u13_0_1_2_n d x hd
              · exact u13_0_1_3_n d x hd
            · rcases (show b = 0 ∨ b = 1 ∨ b = 2 ∨ b = 3 by omega) with rfl | rfl | rfl | rfl
              · exact u13_0_2_0_n d x hd
              · exact u13_0_2_1_n d x hd
              · exact u13_0_2_2_n d x hd
              · exact u13_0_2_3_n d x hd
          · rcases (show c = 0 ∨ c = 1 ∨ c = 2 by omega) with rfl | rfl | rfl
            · rcases (show b = 0 ∨ b = 1 ∨ b = 2 ∨ b = 3 by omega) with rfl | rfl | rfl | rfl
              · exact u13_0_0_0_b d x x2
              · exact u13_0_0_1_b d x x2
              · exact u13_0_0_2_b d x x2
              · exact u13_0_0_3_b d x x2
            · rcases (show b = 0 ∨ b = 1 ∨ b = 2 ∨ b = 3 by omega) with rfl | rfl | rfl | rfl
              · exact u13_0_1_0_b d x x2
              · exact u13_0_1_1_b d x x2
              · exact u13_0_1_2_b d x x2
              · exact u13_0_1_3_b d x x2
            · rcases (show b = 0 ∨ b = 1 ∨ b = 2 ∨ b = 3 by omega) with rfl | rfl | rfl | rfl
              · exact u13_0_2_0_b d x x2
              · exact u13_0_2_1_b d x x2
              · exact u13_0_2_2_b d x x2
              · exact u13_0_2_3_b d x x2
        · rcases (show c = 0 ∨ c = 1 ∨ c = 2 by omega) with rfl | rfl | rfl
          · exact u13_0_0_n b d y hb
          · exact u13_0_1_n b d y hb
          · exact u13_0_2_n b d y hb
        · rcases (show c = 0 ∨ c = 1 ∨ c = 2 by omega) with rfl | rfl | rfl
          · exact u13_0_0_b b d y y2
          · exact u13_0_1_b b d y y2
          · exact u13_0_2_b b d y y2
      · exact u13_0_n b c d z hc
      · exact u13_0_b b c d z z2
    · rcases wl_c hc 3 (by decide) with z | z | ⟨z, z2⟩
      · rcases wl_c hb 4 (by decide) with y | y | ⟨y, y2⟩
        · rcases wl_c hd 4 (by decide) with x | x | ⟨x, x2⟩
          · rcases (show b = 0 ∨ b = 1 ∨ b = 2 ∨ b = 3 by omega) with rfl | rfl | rfl | rfl
            · exact cl_13_1_0 c z d x
            · exact cl_13_1_1 c z d x
            · exact cl_13_1_2 c z d x
            · exact cl_13_1_3 c z d x
          · rcases (show c = 0 ∨ c = 1 ∨ c = 2 by omega) with rfl | rfl | rfl
            · rcases (show b = 0 ∨ b = 1 ∨ b = 2 ∨ b = 3 by omega) with rfl | rfl | rfl | rfl
              · exact u13_1_0_0_n d x hd
              · exact u13_1_0_1_n d x hd
              · exact u13_1_0_2_n d x hd
              · exact u13_1_0_3_n d x hd
            · rcases (show b = 0 ∨ b = 1 ∨ b = 2 ∨ b = 3 by omega) with rfl | rfl | rfl | rfl
              · exact u13_1_1_0_n d x hd
              · exact u13_1_1_1_n d x hd
              · exact u13_1_1_2_n d x hd
              · exact u13_1_1_3_n d x hd
            · rcases (show b = 0 ∨ b = 1 ∨ b = 2 ∨ b = 3 by omega) with rfl | rfl | rfl | rfl
              · exact u13_1_2_0_n d x hd
              · exact u13_1_2_1_n d x hd
              · exact u13_1_2_2_n d x hd
              · exact u13_1_2_3_n d x hd
          · rcases (show c = 0 ∨ c = 1 ∨ c = 2 by omega) with rfl | rfl | rfl
            · rcases (show b = 0 ∨ b = 1 ∨ b = 2 ∨ b = 3 by omega) with rfl | rfl | rfl | rfl
              · exact u13_1_0_0_b d x x2
              · exact u13_1_0_1_b d x x2
              · exact u13_1_0_2_b d x x2
              · exact u13_1_0_3_b d x x2
            · rcases (show b = 0 ∨ b = 1 ∨ b = 2 ∨ b = 3 by omega) with rfl | rfl | rfl | rfl
              · exact u13_1_1_0_b d x x2
              · exact u13_1_1_1_b d x x2
              · exact u13_1_1_2_b d x x2
              · exact u13_1_1_3_b d x x2
            · rcases (show b = 0 ∨ b = 1 ∨ b = 2 ∨ b = 3 by omega) with rfl | rfl | rfl | rfl
              · exact u13_1_2_0_b d x x2
              · exact u13_1_2_1_b d x x2
              · exact u13_1_2_2_b d x x2
              · exact u13_1_2_3_b d x x2
        · rcases (show c = 0 ∨ c = 1 ∨ c = 2 by omega) with rfl | rfl | rfl
          · exact u13_1_0_n b d y hb
          · exact u13_1_1_n b d y hb
          · exact u13_1_2_n b d y hb
        · rcases (show c = 0 ∨ c = 1 ∨ c = 2 by omega) with rfl | rfl | rfl
          · exact u13_1_0_b b d y y2
          · exact u13_1_1_b b d y y2
          · exact u13_1_2_b b d y y2
      · exact u13_1_n b c d z hc
      · exact u13_1_b b c d z z2
    · rcases wl_c hc 3 (by decide) with z | z | ⟨z, z2⟩
      · rcases wl_c hb 4 (by decide) with y | y | ⟨y, y2⟩
        · rcases wl_c hd 4 (by decide) with x | x | ⟨x, x2⟩
          · rcases (show b = 0 ∨ b = 1 ∨ b = 2 ∨ b = 3 by omega) with rfl | rfl | rfl | rfl
            · exact cl_13_2_0 c z d x
            · exact cl_13_2_1 c z d x
            · exact cl_13_2_2 c z d x
            · exact cl_13_2_3 c z d x
          · rcases (show c = 0 ∨ c = 1 ∨ c = 2 by omega) with rfl | rfl | rfl
            · rcases (show b = 0 ∨ b = 1 ∨ b = 2 ∨ b = 3 by omega) with rfl | rfl | rfl | rfl
              · exact u13_2_0_0_n d x hd
              · exact u13_2_0_1_n d x hd
              · exact u13_2_0_2_n d x hd
              · exact u13_2_0_3_n d x hd
            · rcases (show b = 0 ∨ b = 1 ∨ b = 2 ∨ b = 3 by omega) with rfl | rfl | rfl | rfl
              · exact u13_2_1_0_n d x hd
              · exact u13_2_1_1_n d x hd
              · exact u13_2_1_2_n d x hd
              · exact u13_2_1_3_n d x hd
            · rcases (show b = 0 ∨ b = 1 ∨ b = 2 ∨ b = 3 by omega) with rfl | rfl | rfl | rfl
              · exact u13_2_2_0_n d x hd
              · exact u13_2_2_1_n d x hd
              · exact u13_2_2_2_n d x hd
              · exact u13_2_2_3_n d x hd
          · rcases (show c = 0 ∨ c = 1 ∨ c = 2 by omega) with rfl | rfl | rfl
            · rcases (show b = 0 ∨ b = 1 ∨ b = 2 ∨ b = 3 by omega) with rfl | rfl | rfl | rfl
              · exact u13_2_0_0_b d x x2
              · exact u13_2_0_1_b d x x2
              · exact u13_2_0_2_b d x x2
              · exact u13_2_0_3_b d x x2
            · rcases (show b = 0 ∨ b = 1 ∨ b = 2 ∨ b = 3 by omega) with rfl | rfl | rfl | rfl
              · exact u13_2_1_0_b d x x2
              · exact u13_2_1_1_b d x x2
              · exact u13_2_1_2_b d x x2
              · exact u13_2_1_3_b d x x2
            · rcases (show b = 0 ∨ b = 1 ∨ b = 2 ∨ b = 3 by omega) with rfl | rfl | rfl | rfl
              · exact u13_2_2_0_b d x x2
              · exact u13_2_2_1_b d x x2
              · exact u13_2_2_2_b d x x2
              · exact u13_2_2_3_b d x x2
        · rcases (show c = 0 ∨ c = 1 ∨ c = 2 by omega) with rfl | rfl | rfl
          · exact u13_2_0_n b d y hb
          · exact u13_2_1_n b d y hb
          · exact u13_2_2_n b d y hb
        · rcases (show c = 0 ∨ c = 1 ∨ c = 2 by omega) with rfl | rfl | rfl
          · exact u13_2_0_b b d y y2
          · exact u13_2_1_b b d y y2
          · exact u13_2_2_b b d y y2
      · exact u13_2_n b c d z hc
      · exact u13_2_b b c d z z2
  · exact s13_n a b c d q ha
  · exact s13_b a b c d q q2
theorem g_14 {a b c d : Nat} (ha : a < 4294967296) (hb : b < 4294967296) (hc : c < 4294967296) (hd : d < 4294967296) : good (op_14 a b c d sI) = true := by
  by_cases q : a < 6
  · rcases okP_all hb with z | z
    · rcases (show a = 0 ∨ a = 1 ∨ a = 2 ∨ a = 3 ∨ a = 4 ∨ a = 5 by omega) with rfl | rfl | rfl | rfl | rfl | rfl
      · exact v14_0 z c d
      · exact v14_1 z c d
      · exact v14_2 z c d
      · exact v14_3 z c d
      · exact v14_4 z c d
      · exact v14_5 z c d
    · rw [e_14]
      rcases (show a = 0 ∨ a = 1 ∨ a = 2 ∨ a = 3 ∨ a = 4 ∨ a = 5 by omega) with rfl | rfl | rfl | rfl | rfl | rfl
      · exact cl_14_0 b z
      · exact cl_14_1 b z
      · exact cl_14_2 b z
      · exact cl_14_3 b z
      · exact cl_14_4 b z
      · exact cl_14_5 b z
  · exact t14 a b c d ha q
theorem g_15 {a b c d : Nat} (ha : a < 4294967296) (hb : b < 4294967296) (hc : c < 4294967296) (hd : d < 4294967296) : good (op_15 a b c d sI) = true := by
  rcases wl_c ha 7 (by decide) with q | q | ⟨q, q2⟩
  · rw [e_15]; exact cl_15 a q
  · exact u15_n a b c d q ha
  · exact u15_b a b c d q q2
theorem g_25 {a b c d : Nat} (ha : a < 4294967296) (hb : b < 4294967296) (hc : c < 4294967296) (hd : d < 4294967296) : good (op_25 a b c d sI) = true := by
  rcases wl_c ha 7 (by decide) with q | q | ⟨q, q2⟩
  · rw [e_25]; exact cl_25 a q
  · exact s25_n a b c d q ha
  · exact s25_b a b c d q q2
theorem g_27 {a b c d : Nat} (ha : a < 4294967296) (hb : b < 4294967296) (hc : c < 4294967296) (hd : d < 4294967296) : good (op_27 a b c d sI) = true := by
  rw [e_27]; exact cl_27
theorem wof_lt (x : Int32) : wof x < 4294967296 := x.toBitVec.isLt
theorem law_ok (xl : List Int32) (h : xl.length ≤ 5) : ∃ hs : kHS, kEv (kM (tbx xl)) kML 220 lawD [rv 8] ([], 0, 0) (.inl (some (.int 1)), hs) ∧ hs.2.1 ≤ room_1.cells ∧ hs.2.2 ≤ room_1.slots := by
  have key : good (f_L_law (tbx xl) 8 ([], 0, 0)) = true := by
    have hdc : ∀ y : Option (dR Nat), good y = true → good (dchk ([], 0, 0) y) = true := fun y hy => by
      obtain ⟨hs, rfl, h1, h2⟩ := good_spec hy
      unfold dchk
      rw [ob_s2]
      show good (bif Nat.ble 0 hs.2.1 && Nat.ble 0 hs.2.2 then _ else none) = true
      rw [show Nat.ble 0 hs.2.1 = true from Nat.ble_eq.mpr (Nat.zero_le _), show Nat.ble 0 hs.2.2 = true from Nat.ble_eq.mpr (Nat.zero_le _)]
      exact hy
    rw [law_begin]
    refine hdc _ ?_
    rw [show dF = 99998 + 1 + 1 from rfl, lp_L_law_s0]
    by_cases h5 : xl.length < 5
    · rw [law_short xl h5]
      exact good_1 (by decide +kernel)
    · obtain ⟨x0, x1, x2, x3, x4, rfl⟩ : ∃ x0 x1 x2 x3 x4, xl = [x0, x1, x2, x3, x4] := by
        match xl, h, h5 with
        | [x0, x1, x2, x3, x4], _, _ => exact ⟨x0, x1, x2, x3, x4, rfl⟩
        | [], _, h5 => exact absurd (by decide) h5
        | [_], _, h5 => exact absurd (by show 1 < 5; decide) h5
        | [_, _], _, h5 => exact absurd (by show 2 < 5; decide) h5
        | [_, _, _], _, h5 => exact absurd (by show 3 < 5; decide) h5
        | [_, _, _, _], _, h5 => exact absurd (by show 4 < 5; decide) h5
        | _ :: _ :: _ :: _ :: _ :: _ :: t, h, _ => exact absurd h (by show ¬ (t.length + 6 ≤ 5); omega)
      rw [law_mid]
      have h1 := wof_lt x1
      have h2 := wof_lt x2
      have h3 := wof_lt x3
      have h4 := wof_lt x4
      refine good_if (g_0 h1 h2 h3 h4) ?_
      refine good_if (g_1 h1 h2 h3 h4) ?_
      refine good_if (g_2 h1 h2 h3 h4) ?_
      refine good_if (g_3 h1 h2 h3 h4) ?_
      refine good_if (g_4 h1 h2 h3 h4) ?_
      refine good_if (g_5 h1 h2 h3 h4) ?_
      refine good_if (g_6 h1 h2 h3 h4) ?_
      refine good_if (g_7 h1 h2 h3 h4) ?_
      refine good_if (g_8 h1 h2 h3 h4) ?_
      refine good_if (g_9 h1 h2 h3 h4) ?_
      refine good_if (g_10 h1 h2 h3 h4) ?_
      refine good_if (g_11 h1 h2 h3 h4) ?_
      refine good_if (g_12 h1 h2 h3 h4) ?_
      refine good_if (g_13 h1 h2 h3 h4) ?_
      refine good_if (g_14 h1 h2 h3 h4) ?_
      refine good_if (g_15 h1 h2 h3 h4) ?_
      refine good_if (g_16 h1 h2 h3 h4) ?_
      refine good_if (g_17 h1 h2 h3 h4) ?_
      refine good_if (g_18 h1 h2 h3 h4) ?_
      refine good_if (g_19 h1 h2 h3 h4) ?_
      refine good_if (g_20 h1 h2 h3 h4) ?_
      refine good_if (g_21 h1 h2 h3 h4) ?_
      refine good_if (g_22 h1 h2 h3 h4) ?_
      refine good_if (g_23 h1 h2 h3 h4) ?_
      refine good_if (g_24 h1 h2 h3 h4) ?_
      refine good_if (g_25 h1 h2 h3 h4) ?_
      refine good_if (g_26 h1 h2 h3 h4) ?_
      refine good_if (g_27 h1 h2 h3 h4) ?_
      exact good_1 (by decide +kernel)
  obtain ⟨hs, e, b1, b2⟩ := good_spec key
  have hT := T_L_law (tab_x xl) 8 ([], 0, 0) _ e
  exact ⟨hs, kEv_mono hT (by decide), Nat.le_trans b1 (by decide +kernel), Nat.le_trans b2 (by decide +kernel)⟩
