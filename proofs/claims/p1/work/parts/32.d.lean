def vpat : List Nat := [12, 21, 123, 132, 213, 231, 312, 321, 1234, 1243, 1324, 1342, 1423, 1432, 2134, 2143, 2314, 2341, 2413, 2431, 3124, 3142, 3214, 3241, 3412, 3421, 4123, 4132, 4213, 4231, 4312, 4321]
set_option maxRecDepth 100000 in
theorem cl_14_0 : ∀ b ∈ vpat, good (op_14 0 b 0 0 sI) = true := by decide +kernel
set_option maxRecDepth 100000 in
theorem cl_14_1 : ∀ b ∈ vpat, good (op_14 1 b 0 0 sI) = true := by decide +kernel
set_option maxRecDepth 100000 in
theorem cl_14_2 : ∀ b ∈ vpat, good (op_14 2 b 0 0 sI) = true := by decide +kernel
set_option maxRecDepth 100000 in
theorem cl_14_3 : ∀ b ∈ vpat, good (op_14 3 b 0 0 sI) = true := by decide +kernel
set_option maxRecDepth 100000 in
theorem cl_14_4 : ∀ b ∈ vpat, good (op_14 4 b 0 0 sI) = true := by decide +kernel
set_option maxRecDepth 100000 in
theorem cl_14_5 : ∀ b ∈ vpat, good (op_14 5 b 0 0 sI) = true := by decide +kernel
