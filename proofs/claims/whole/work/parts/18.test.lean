def kT0 : List (List Int32) := [[0, 0, 1, 1, 0, 0, 1, 2, 2, 2, 2], [1, 1, 0, 1, 0, 0, 2, 1, 2, 2, 2], [1, 1, 2, 5, 14, 42, 132], [1, 1, 2, 6, 24, 120, 720], [1, 10, 100, 1000, 10000, 100000, 1000000], [0, 0, 1, 1, 0, 0, 1, 2, 2, 2, 2], [1, 1, 0, 1, 0, 0, 2, 1, 2, 2, 2], []]
def kisI (r : Option kRes) (x : Int32) : Bool := match r with
  | some (.inl (some (.int y)), _) => decide (y = x)
  | _ => false
def kisR (r : Option kRes) : Bool := match r with
  | some (.inl (some (.ref _)), _) => true
  | _ => false
theorem tst_1 : kisI (kcall (kM kT0) kML 100000 12 mi_X2_sort [.int 654321, .int 6] ([], 0, 0)) 123456 = true := by decide +kernel
