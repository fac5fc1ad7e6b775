set_option maxRecDepth 100000 in
theorem cl_26 : ∀ a, a < 3 → ∀ b, b < 4 → good (op_26 a b 0 0 sI) = true := by decide +kernel
set_option maxRecDepth 100000 in
theorem cl_15 : ∀ a, a < 7 → good (op_15 a 0 0 0 sI) = true := by decide +kernel
set_option maxRecDepth 100000 in
theorem cl_0 : ∀ a, a < 5 → good (op_0 a 0 0 0 sI) = true := by decide +kernel
