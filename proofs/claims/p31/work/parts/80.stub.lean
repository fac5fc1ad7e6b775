def lawD : Nat := 40
theorem law_ok (xl : List Int32) (h : xl.length ≤ 260) : ∃ hs : kHS, kEv (kM (kT7 ++ [xl])) kML 111 lawD [rv 6] ([], 0, 0) (.inl (some (.int 1)), hs) ∧ hs.2.1 ≤ 600104 ∧ hs.2.2 ≤ 7301313 := sorry
