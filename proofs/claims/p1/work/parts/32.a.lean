/-! ===== calls whose words are in their ranges: all of them, one after another ===== -/
set_option maxRecDepth 100000 in
theorem cl_27 : good (op_27 0 0 0 0 sI) = true := by decide +kernel
set_option maxRecDepth 100000 in
theorem cl_12 : ∀ a, a < 3 → ∀ b, b < 4 → good (op_12 a b 0 0 sI) = true := by decide +kernel
set_option maxRecDepth 100000 in
theorem cl_7 : ∀ a, a < 3 → good (op_7 a 0 0 0 sI) = true := by decide +kernel
set_option maxRecDepth 100000 in
theorem cl_25 : ∀ a, a < 7 → good (op_25 a 0 0 0 sI) = true := by decide +kernel
set_option maxRecDepth 100000 in
theorem cl_1 : ∀ a, a < 11 → good (op_1 a 0 0 0 sI) = true := by decide +kernel
set_option maxRecDepth 100000 in
theorem cl_8 : ∀ a, a < 3 → ∀ b, b < 6 → good (op_8 a b 0 0 sI) = true := by decide +kernel
set_option maxRecDepth 100000 in
theorem cl_9 : ∀ a, a < 3 → ∀ b ∈ [42, 44, 50, 52, 56, 123, 132, 213, 231, 312, 321], good (op_9 a b 0 0 sI) = true := by decide +kernel
set_option maxRecDepth 100000 in
theorem cl_3 : ∀ a, a < 3 → ∀ b ∈ [42, 44, 50, 52, 56, 123, 132, 213, 231, 312, 321], good (op_3 a b 0 0 sI) = true := by decide +kernel
set_option maxRecDepth 100000 in
theorem cl_10 : ∀ a, a < 3 → ∀ b, b < 4 → ∀ c, c < 6 → good (op_10 a b c 0 sI) = true := by decide +kernel
