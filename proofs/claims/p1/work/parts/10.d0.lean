/-! ===== the static tables of ints, in their order ===== -/
def kT7 : List (List Int32) := [[0, 0, 1, 1, 0, 0, 1, 2, 2, 2, 2], [1, 1, 0, 1, 0, 0, 2, 1, 2, 2, 2], [1, 1, 2, 5, 14, 42, 132], [1, 1, 2, 6, 24, 120, 720], [1, 10, 100, 1000, 10000, 100000, 1000000], [0, 0, 1, 1, 0, 0, 1, 2, 2, 2, 2], [1, 1, 0, 1, 0, 0, 2, 1, 2, 2, 2]]
/-- how many tables there are, the script's one with them; the classes' numbers -/
def nS : Nat := 20
def c_J6 : Nat := 0
def c_Jx35411 : Nat := 1
def c_Jx4a65c : Nat := 2
def c_X0 : Nat := 3
def c_X1 : Nat := 4
def c_X4 : Nat := 5
def c_X6 : Nat := 6
def c_X8 : Nat := 7
def c_X9 : Nat := 8
def c_X10 : Nat := 9
def c_X11 : Nat := 10
def c_X12 : Nat := 11
