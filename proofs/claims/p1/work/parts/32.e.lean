set_option maxRecDepth 100000 in
theorem cl_11_0_0 : ∀ c, c < 10 → good (op_11 0 0 c 0 sI) = true := by decide +kernel
set_option maxRecDepth 100000 in
theorem cl_11_0_1 : ∀ c, c < 10 → good (op_11 0 1 c 0 sI) = true := by decide +kernel
set_option maxRecDepth 100000 in
theorem cl_11_0_2 : ∀ c, c < 10 → good (op_11 0 2 c 0 sI) = true := by decide +kernel
set_option maxRecDepth 100000 in
theorem cl_11_0_3 : ∀ c, c < 10 → good (op_11 0 3 c 0 sI) = true := by decide +kernel
set_option maxRecDepth 100000 in
theorem cl_11_1_0 : ∀ c, c < 10 → good (op_11 1 0 c 0 sI) = true := by decide +kernel
set_option maxRecDepth 100000 in
theorem cl_11_1_1 : ∀ c, c < 10 → good (op_11 1 1 c 0 sI) = true := by decide +kernel
set_option maxRecDepth 100000 in
theorem cl_11_1_2 : ∀ c, c < 10 → good (op_11 1 2 c 0 sI) = true := by decide +kernel
set_option maxRecDepth 100000 in
theorem cl_11_1_3 : ∀ c, c < 10 → good (op_11 1 3 c 0 sI) = true := by decide +kernel
set_option maxRecDepth 100000 in
theorem cl_11_2_0 : ∀ c, c < 10 → good (op_11 2 0 c 0 sI) = true := by decide +kernel
set_option maxRecDepth 100000 in
theorem cl_11_2_1 : ∀ c, c < 10 → good (op_11 2 1 c 0 sI) = true := by decide +kernel
set_option maxRecDepth 100000 in
theorem cl_11_2_2 : ∀ c, c < 10 → good (op_11 2 2 c 0 sI) = true := by decide +kernel
set_option maxRecDepth 100000 in
theorem cl_11_2_3 : ∀ c, c < 10 → good (op_11 2 3 c 0 sI) = true := by decide +kernel
