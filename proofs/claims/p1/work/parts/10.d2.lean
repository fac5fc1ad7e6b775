/-! ===== longs as natural numbers ===== -/
def xadd (a b : Nat) : Nat := Nat.mod (Nat.add a b) 18446744073709551616
def xmul (a b : Nat) : Nat := Nat.mod (Nat.mul a b) 18446744073709551616
def xsub (a b : Nat) : Nat := Nat.mod (Nat.sub (Nat.add (Nat.mod a 18446744073709551616) 18446744073709551616) (Nat.mod b 18446744073709551616)) 18446744073709551616
def xpos (a : Nat) : Bool := Nat.ble (Nat.mod a 18446744073709551616) 9223372036854775807
def xneg (a : Nat) : Nat := Nat.mod (Nat.sub 18446744073709551616 (Nat.mod a 18446744073709551616)) 18446744073709551616
def xdiv (a b : Nat) : Nat := bif xpos a then (bif xpos b then Nat.div (Nat.mod a 18446744073709551616) (Nat.mod b 18446744073709551616) else xneg (Nat.div (Nat.mod a 18446744073709551616) (Nat.sub 18446744073709551616 (Nat.mod b 18446744073709551616)))) else (bif xpos b then xneg (Nat.div (Nat.sub 18446744073709551616 (Nat.mod a 18446744073709551616)) (Nat.mod b 18446744073709551616)) else Nat.div (Nat.sub 18446744073709551616 (Nat.mod a 18446744073709551616)) (Nat.sub 18446744073709551616 (Nat.mod b 18446744073709551616)))
def xrem (a b : Nat) : Nat := xsub a (xmul (xdiv a b) b)
def xlt (a b : Nat) : Bool := Nat.ble (Nat.succ (Nat.mod (Nat.add a 9223372036854775808) 18446744073709551616)) (Nat.mod (Nat.add b 9223372036854775808) 18446744073709551616)
def xeq (a b : Nat) : Bool := Nat.beq (Nat.mod a 18446744073709551616) (Nat.mod b 18446744073709551616)
def xcmp (a b : Nat) : Nat := bif xlt b a then 1 else (bif xeq a b then 0 else 4294967295)
def xi (a : Nat) : Nat := bif wpos a then Nat.mod a 4294967296 else Nat.add (Nat.mod a 4294967296) 18446744069414584320
def xof (x : Int64) : Nat := x.toBitVec.toNat
theorem lN_bw (a : Nat) : (lN a).toBitVec.toNat = a % 18446744073709551616 := by
  show (BitVec.ofNat 64 a).toNat = _
  rw [BitVec.toNat_ofNat]
theorem lN_xof (x : Int64) : lN (xof x) = x := by
  apply Int64.toBitVec_inj.mp
  show BitVec.ofNat 64 x.toBitVec.toNat = _
  rw [BitVec.ofNat_toNat, BitVec.setWidth_eq]
theorem eq_lN {x : Int64} {n : Nat} (h : x.toBitVec.toNat = n % 18446744073709551616) : x = lN n := by
  apply Int64.toBitVec_inj.mp
  apply BitVec.eq_of_toNat_eq
  rw [h]
  exact (lN_bw n).symm
theorem lN_modw (a : Nat) : lN (a % 18446744073709551616) = lN a := eq_lN (by rw [lN_bw, Nat.mod_mod])
theorem lN_injw {a b : Nat} : lN a = lN b ↔ a % 18446744073709551616 = b % 18446744073709551616 := by
  constructor
  · intro h
    have := congrArg (fun x => x.toBitVec.toNat) h
    simp only [lN_bw] at this
    exact this
  · intro h
    rw [← lN_modw a, h, lN_modw]
theorem lN_int (a : Nat) : (lN a).toInt = if a % 18446744073709551616 < 9223372036854775808 then ((a % 18446744073709551616 : Nat) : Int) else ((a % 18446744073709551616 : Nat) : Int) - 18446744073709551616 := by
  show (lN a).toBitVec.toInt = _
  rw [BitVec.toInt_eq_toNat_cond, lN_bw]
  split <;> split <;> omega
theorem xpos_iff {a : Nat} : xpos a = true ↔ a % 18446744073709551616 < 9223372036854775808 := by
  unfold xpos
  rw [Nat.ble_eq]
  show a % 18446744073709551616 ≤ 9223372036854775807 ↔ _
  omega
theorem xpos_no {a : Nat} : xpos a = false ↔ 9223372036854775808 ≤ a % 18446744073709551616 := by
  rw [← Bool.not_eq_true, xpos_iff]
  omega
theorem x_add (a b : Nat) : lN a + lN b = lN (xadd a b) := by
  rw [lN_add]
  exact (lN_modw _).symm
theorem x_mul (a b : Nat) : lN a * lN b = lN (xmul a b) := by
  rw [lN_mul]
  exact (lN_modw _).symm
theorem x_sub (a b : Nat) : lN a - lN b = lN (xsub a b) := by
  refine eq_lN ?_
  show ((lN a).toBitVec - (lN b).toBitVec).toNat = (((a % 18446744073709551616 + 18446744073709551616) - b % 18446744073709551616) % 18446744073709551616) % 18446744073709551616
  rw [BitVec.toNat_sub, lN_bw, lN_bw]
  omega
theorem x_neg (a : Nat) : -lN a = lN (xneg a) := by
  refine eq_lN ?_
  show (-(lN a).toBitVec).toNat = ((18446744073709551616 - a % 18446744073709551616) % 18446744073709551616) % 18446744073709551616
  rw [BitVec.toNat_neg, lN_bw]
  omega
theorem x_divI {a b c : Nat} (h : (lN a).toInt.tdiv (lN b).toInt = (c : Int)) : lN a / lN b = lN c := by
  apply Int64.toInt_inj.mp
  rw [Int64.toInt_div, h]
  exact Int64.toInt_ofNat'.symm
theorem x_divN {a b c : Nat} (h : (lN a).toInt.tdiv (lN b).toInt = -(c : Int)) : lN a / lN b = lN (xneg c) := by
  rw [← x_neg]
  apply Int64.toInt_inj.mp
  have hc : (lN c).toInt = (c : Int).bmod (2 ^ 64) := Int64.toInt_ofNat'
  rw [Int64.toInt_div, h, Int64.toInt_neg, hc, Int.bmod_neg_bmod]
theorem x_div (a b : Nat) : lN a / lN b = lN (xdiv a b) := by
  unfold xdiv
  cases ha : xpos a with
  | true =>
    have h1 := xpos_iff.mp ha
    cases hb : xpos b with
    | true =>
      have h2 := xpos_iff.mp hb
      refine x_divI ?_
      rw [lN_int, lN_int, if_pos h1, if_pos h2]
      exact (Int.ofNat_tdiv _ _).symm
    | false =>
      have h2 := xpos_no.mp hb
      refine x_divN ?_
      rw [lN_int, lN_int, if_pos h1, if_neg (by omega), show ((b % 18446744073709551616 : Nat) : Int) - 18446744073709551616 = -((18446744073709551616 - b % 18446744073709551616 : Nat) : Int) by omega, Int.tdiv_neg]
      rw [← Int.ofNat_tdiv]
      rfl
  | false =>
    have h1 := xpos_no.mp ha
    cases hb : xpos b with
    | true =>
      have h2 := xpos_iff.mp hb
      refine x_divN ?_
      rw [lN_int, lN_int, if_neg (by omega), if_pos h2, show ((a % 18446744073709551616 : Nat) : Int) - 18446744073709551616 = -((18446744073709551616 - a % 18446744073709551616 : Nat) : Int) by omega, Int.neg_tdiv]
      rw [← Int.ofNat_tdiv]
      rfl
    | false =>
      have h2 := xpos_no.mp hb
      refine x_divI ?_
      rw [lN_int, lN_int, if_neg (by omega), if_neg (by omega), show ((a % 18446744073709551616 : Nat) : Int) - 18446744073709551616 = -((18446744073709551616 - a % 18446744073709551616 : Nat) : Int) by omega, show ((b % 18446744073709551616 : Nat) : Int) - 18446744073709551616 = -((18446744073709551616 - b % 18446744073709551616 : Nat) : Int) by omega, Int.neg_tdiv_neg]
      exact (Int.ofNat_tdiv _ _).symm
theorem x_rem (a b : Nat) : lN a - lN a / lN b * lN b = lN (xrem a b) := by
  unfold xrem
  rw [x_div, x_mul, x_sub]
theorem x_eq (a b : Nat) : decide (lN a = lN b) = xeq a b := by
  rw [Bool.eq_iff_iff, decide_eq_true_iff, lN_injw]
  unfold xeq
  rw [Nat.beq_eq]
  exact Iff.rfl
theorem x_lt (a b : Nat) : decide (lN a < lN b) = xlt a b := by
  rw [Bool.eq_iff_iff, decide_eq_true_iff, Int64.lt_iff_toInt_lt, lN_int, lN_int]
  unfold xlt
  rw [Nat.ble_eq]
  show _ ↔ (a + 9223372036854775808) % 18446744073709551616 + 1 ≤ (b + 9223372036854775808) % 18446744073709551616
  split <;> split <;> omega
theorem x_cmp (a b : Nat) : lg_cmp (lN a) (lN b) = nI (xcmp a b) := by
  unfold lg_cmp xcmp
  rw [← x_lt, ← x_eq]
  by_cases h1 : lN a > lN b
  · rw [if_pos h1, decide_eq_true h1]; rfl
  · rw [if_neg h1, decide_eq_false h1]
    by_cases h2 : lN a = lN b
    · rw [if_pos h2, decide_eq_true h2]; rfl
    · rw [if_neg h2, decide_eq_false h2]; rfl
theorem x_i2l (a : Nat) : (nI a).toInt64 = lN (xi a) := by
  apply Int64.toInt_inj.mp
  rw [Int32.toInt_toInt64, nI_int, lN_int]
  unfold xi
  cases ha : wpos a with
  | true =>
    have h1 := wpos_iff.mp ha
    simp only [cond_true]
    show (if a % 4294967296 < 2147483648 then _ else _) = (if (a % 4294967296) % 18446744073709551616 < 9223372036854775808 then (((a % 4294967296) % 18446744073709551616 : Nat) : Int) else _)
    rw [if_pos h1, if_pos (by omega)]
    omega
  | false =>
    have h1 := wpos_no.mp ha
    simp only [cond_false]
    show (if a % 4294967296 < 2147483648 then _ else _) = (if (a % 4294967296 + 18446744069414584320) % 18446744073709551616 < 9223372036854775808 then _ else (((a % 4294967296 + 18446744069414584320) % 18446744073709551616 : Nat) : Int) - 18446744073709551616)
    rw [if_neg (by omega), if_neg (by omega)]
    omega
theorem x_l2i (a : Nat) : (lN a).toInt32 = nI a := lN_i a
