set_option maxRecDepth 100000 in
theorem cl_0_5 : good (op_0 5 0 0 0 sI) = true := by decide +kernel
