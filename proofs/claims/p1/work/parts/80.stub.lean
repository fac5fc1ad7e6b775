def lawD : Nat := 40
theorem law_ok (xl : List Int32) (h : xl.length ≤ 5) : ∃ hs : kHS, kEv (kM (tbx xl)) kML 220 lawD [rv 8] ([], 0, 0) (.inl (some (.int 1)), hs) ∧ hs.2.1 ≤ room_1.cells ∧ hs.2.2 ≤ room_1.slots := sorry
