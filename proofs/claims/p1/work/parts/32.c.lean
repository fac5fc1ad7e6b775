set_option maxRecDepth 100000 in
theorem cl_13_0_0 : ∀ c, c < 3 → ∀ d, d < 4 → good (op_13 0 0 c d sI) = true := by decide +kernel
set_option maxRecDepth 100000 in
theorem cl_13_0_1 : ∀ c, c < 3 → ∀ d, d < 4 → good (op_13 0 1 c d sI) = true := by decide +kernel
set_option maxRecDepth 100000 in
theorem cl_13_0_2 : ∀ c, c < 3 → ∀ d, d < 4 → good (op_13 0 2 c d sI) = true := by decide +kernel
set_option maxRecDepth 100000 in
theorem cl_13_0_3 : ∀ c, c < 3 → ∀ d, d < 4 → good (op_13 0 3 c d sI) = true := by decide +kernel
set_option maxRecDepth 100000 in
theorem cl_13_1_0 : ∀ c, c < 3 → ∀ d, d < 4 → good (op_13 1 0 c d sI) = true := by decide +kernel
set_option maxRecDepth 100000 in
theorem cl_13_1_1 : ∀ c, c < 3 → ∀ d, d < 4 → good (op_13 1 1 c d sI) = true := by decide +kernel
set_option maxRecDepth 100000 in
theorem cl_13_1_2 : ∀ c, c < 3 → ∀ d, d < 4 → good (op_13 1 2 c d sI) = true := by decide +kernel
set_option maxRecDepth 100000 in
theorem cl_13_1_3 : ∀ c, c < 3 → ∀ d, d < 4 → good (op_13 1 3 c d sI) = true := by decide +kernel
set_option maxRecDepth 100000 in
theorem cl_13_2_0 : ∀ c, c < 3 → ∀ d, d < 4 → good (op_13 2 0 c d sI) = true := by decide +kernel
set_option maxRecDepth 100000 in
theorem cl_13_2_1 : ∀ c, c < 3 → ∀ d, d < 4 → good (op_13 2 1 c d sI) = true := by decide +kernel
set_option maxRecDepth 100000 in
theorem cl_13_2_2 : ∀ c, c < 3 → ∀ d, d < 4 → good (op_13 2 2 c d sI) = true := by decide +kernel
set_option maxRecDepth 100000 in
theorem cl_13_2_3 : ∀ c, c < 3 → ∀ d, d < 4 → good (op_13 2 3 c d sI) = true := by decide +kernel
