/-! ===== words and longs as natural numbers: what the machine's arithmetic does to them ===== -/
def wadd (a b : Nat) : Nat := Nat.mod (Nat.add a b) 4294967296
def wsub (a b : Nat) : Nat := Nat.mod (Nat.sub (Nat.add (Nat.mod a 4294967296) 4294967296) (Nat.mod b 4294967296)) 4294967296
def wmul (a b : Nat) : Nat := Nat.mod (Nat.mul a b) 4294967296
def wneg (a : Nat) : Nat := Nat.mod (Nat.sub 4294967296 (Nat.mod a 4294967296)) 4294967296
def wpos (a : Nat) : Bool := Nat.ble (Nat.mod a 4294967296) 2147483647
def wand (a b : Nat) : Nat := Nat.land a b
def wor (a b : Nat) : Nat := Nat.lor a b
def wshl (a b : Nat) : Nat := Nat.mod (Nat.shiftLeft a (Nat.mod b 32)) 4294967296
def wshr (a b : Nat) : Nat := bif wpos a then Nat.shiftRight (Nat.mod a 4294967296) (Nat.mod b 32) else Nat.sub 4294967295 (Nat.shiftRight (Nat.sub 4294967295 (Nat.mod a 4294967296)) (Nat.mod b 32))
def wushr (a b : Nat) : Nat := Nat.shiftRight (Nat.mod a 4294967296) (Nat.mod b 32)
def wdiv (a b : Nat) : Nat := bif wpos a then (bif wpos b then Nat.div (Nat.mod a 4294967296) (Nat.mod b 4294967296) else wneg (Nat.div (Nat.mod a 4294967296) (Nat.sub 4294967296 (Nat.mod b 4294967296)))) else (bif wpos b then wneg (Nat.div (Nat.sub 4294967296 (Nat.mod a 4294967296)) (Nat.mod b 4294967296)) else Nat.div (Nat.sub 4294967296 (Nat.mod a 4294967296)) (Nat.sub 4294967296 (Nat.mod b 4294967296)))
def wrem (a b : Nat) : Nat := bif wpos a && wpos b then Nat.mod (Nat.mod a 4294967296) (Nat.mod b 4294967296) else wsub a (wmul (wdiv a b) b)
def wlt (a b : Nat) : Bool := Nat.ble (Nat.succ (Nat.mod (Nat.add a 2147483648) 4294967296)) (Nat.mod (Nat.add b 2147483648) 4294967296)
def wle (a b : Nat) : Bool := Nat.ble (Nat.mod (Nat.add a 2147483648) 4294967296) (Nat.mod (Nat.add b 2147483648) 4294967296)
def weq (a b : Nat) : Bool := Nat.beq (Nat.mod a 4294967296) (Nat.mod b 4294967296)
def wof (x : Int32) : Nat := x.toBitVec.toNat
theorem wof_nI (a : Nat) : wof (nI a) = a % 4294967296 := by
  show (BitVec.ofNat 32 a).toNat = _
  rw [BitVec.toNat_ofNat]
theorem nI_wof (x : Int32) : nI (wof x) = x := by
  apply Int32.toBitVec_inj.mp
  show BitVec.ofNat 32 x.toBitVec.toNat = _
  rw [BitVec.ofNat_toNat, BitVec.setWidth_eq]
theorem eq_nI {x : Int32} {n : Nat} (h : x.toBitVec.toNat = n % 4294967296) : x = nI n := by
  apply Int32.toBitVec_inj.mp
  apply BitVec.eq_of_toNat_eq
  rw [h]
  exact (wof_nI n).symm
theorem nI_modw (a : Nat) : nI (a % 4294967296) = nI a := (eq_nI (by rw [show (nI (a % 4294967296)).toBitVec.toNat = wof (nI (a % 4294967296)) from rfl, wof_nI]; omega))
theorem nI_injw {a b : Nat} : nI a = nI b ↔ a % 4294967296 = b % 4294967296 := by
  constructor
  · intro h
    have := congrArg wof h
    rwa [wof_nI, wof_nI] at this
  · intro h
    rw [← nI_modw a, h, nI_modw]
theorem nI_bv (a : Nat) : (nI a).toBitVec.toNat = a % 4294967296 := wof_nI a
theorem nI_int (a : Nat) : (nI a).toInt = if a % 4294967296 < 2147483648 then ((a % 4294967296 : Nat) : Int) else ((a % 4294967296 : Nat) : Int) - 4294967296 := by
  show (nI a).toBitVec.toInt = _
  rw [BitVec.toInt_eq_toNat_cond, nI_bv]
  split <;> split <;> omega
theorem wpos_iff {a : Nat} : wpos a = true ↔ a % 4294967296 < 2147483648 := by
  unfold wpos
  rw [Nat.ble_eq]
  show a % 4294967296 ≤ 2147483647 ↔ _
  omega
theorem wpos_no {a : Nat} : wpos a = false ↔ 2147483648 ≤ a % 4294967296 := by
  rw [← Bool.not_eq_true, wpos_iff]
  omega
theorem w_add (a b : Nat) : nI a + nI b = nI (wadd a b) := by
  rw [nI_add]
  exact (nI_modw _).symm
theorem w_sub (a b : Nat) : nI a - nI b = nI (wsub a b) := by
  refine eq_nI ?_
  show ((nI a).toBitVec - (nI b).toBitVec).toNat = (((a % 4294967296 + 4294967296) - b % 4294967296) % 4294967296) % 4294967296
  rw [BitVec.toNat_sub, nI_bv, nI_bv]
  omega
theorem w_mul (a b : Nat) : nI a * nI b = nI (wmul a b) := by
  rw [show nI a * nI b = nI (a * b) from (Int32.ofNat_mul a b).symm]
  exact (nI_modw _).symm
theorem w_neg (a : Nat) : -nI a = nI (wneg a) := by
  refine eq_nI ?_
  show (-(nI a).toBitVec).toNat = ((4294967296 - a % 4294967296) % 4294967296) % 4294967296
  rw [BitVec.toNat_neg, nI_bv]
  omega
theorem w_and (a b : Nat) : nI a &&& nI b = nI (wand a b) := Int32.toBitVec_inj.mp (BitVec.ofNat_and).symm
theorem w_or (a b : Nat) : nI a ||| nI b = nI (wor a b) := Int32.toBitVec_inj.mp (BitVec.ofNat_or).symm
theorem w_s31 : ∀ n, n < 32 → ((nI n &&& 31).toBitVec.smod 32).toNat = n := by decide +kernel
theorem w_m31 (b : Nat) : nI b &&& 31 = nI (b % 32) &&& 31 := by
  rw [show (31 : Int32) = nI 31 from rfl, w_and, w_and]
  show nI (b &&& 31) = nI (b % 32 &&& 31)
  rw [show (31 : Nat) = 2 ^ 5 - 1 from rfl, Nat.and_two_pow_sub_one_eq_mod, Nat.and_two_pow_sub_one_eq_mod]
  congr 1
  omega
theorem w_sh (b : Nat) : ((nI b &&& 31).toBitVec.smod 32).toNat = b % 32 := by
  rw [w_m31]
  exact w_s31 _ (Nat.mod_lt _ (by decide))
theorem w_shl (a b : Nat) : nI a <<< (nI b &&& 31) = nI (wshl a b) := by
  refine eq_nI ?_
  show ((nI a).toBitVec <<< ((nI b &&& 31).toBitVec.smod 32)).toNat = (a <<< (b % 32)) % 4294967296 % 4294967296
  rw [BitVec.shiftLeft_eq', w_sh, BitVec.toNat_shiftLeft, nI_bv, Nat.shiftLeft_eq, Nat.shiftLeft_eq, Nat.mod_mod]
  show a % 4294967296 * 2 ^ (b % 32) % 4294967296 = _
  rw [Nat.mod_mul_mod]
theorem w_shr (a b : Nat) : nI a >>> (nI b &&& 31) = nI (wshr a b) := by
  refine eq_nI ?_
  show ((nI a).toBitVec.sshiftRight' ((nI b &&& 31).toBitVec.smod 32)).toNat = _
  have hs : ∀ x k, x < 4294967296 → x >>> k < 4294967296 := fun x k h => Nat.lt_of_le_of_lt (by rw [Nat.shiftRight_eq_div_pow]; exact Nat.div_le_self _ _) h
  have hlt : a % 4294967296 < 4294967296 := Nat.mod_lt _ (by decide)
  unfold wshr
  cases hp : wpos a with
  | true =>
    have h1 := wpos_iff.mp hp
    rw [BitVec.toNat_sshiftRight'_of_msb_false (by rw [BitVec.msb_eq_decide, nI_bv]; simp; omega), nI_bv, w_sh]
    simp only [cond_true]
    exact (Nat.mod_eq_of_lt (hs _ _ hlt)).symm
  | false =>
    have h1 := wpos_no.mp hp
    rw [BitVec.toNat_sshiftRight'_of_msb_true (by rw [BitVec.msb_eq_decide, nI_bv]; simp; omega), nI_bv, w_sh]
    simp only [cond_false]
    show 4294967295 - (4294967295 - a % 4294967296) >>> (b % 32) = (4294967295 - (4294967295 - a % 4294967296) >>> (b % 32)) % 4294967296
    refine (Nat.mod_eq_of_lt ?_).symm
    exact Nat.lt_of_le_of_lt (Nat.sub_le _ _) (by decide)
theorem w_u31 : ∀ n, n < 32 → (((nI n).toUInt32 &&& Int32.toUInt32 31).toBitVec % 32).toNat = n := by decide +kernel
theorem w_ushr (a b : Nat) : ((nI a).toUInt32 >>> ((nI b).toUInt32 &&& Int32.toUInt32 31)).toInt32 = nI (wushr a b) := by
  refine eq_nI ?_
  have e : (nI b).toUInt32 &&& Int32.toUInt32 31 = (nI (b % 32)).toUInt32 &&& Int32.toUInt32 31 := by
    have := congrArg Int32.toUInt32 (w_m31 b)
    exact this
  show ((nI a).toBitVec >>> (((nI b).toUInt32 &&& Int32.toUInt32 31).toBitVec % 32)).toNat = ((a % 4294967296) >>> (b % 32)) % 4294967296
  rw [e, BitVec.ushiftRight_eq', w_u31 _ (Nat.mod_lt _ (by decide)), BitVec.toNat_ushiftRight, nI_bv]
  have hlt : a % 4294967296 < 4294967296 := Nat.mod_lt _ (by decide)
  exact (Nat.mod_eq_of_lt (Nat.lt_of_le_of_lt (by rw [Nat.shiftRight_eq_div_pow]; exact Nat.div_le_self _ _) hlt)).symm
theorem w_lt (a b : Nat) : decide (nI a < nI b) = wlt a b := by
  rw [Bool.eq_iff_iff, decide_eq_true_iff, Int32.lt_iff_toInt_lt, nI_int, nI_int]
  unfold wlt
  rw [Nat.ble_eq]
  show _ ↔ (a + 2147483648) % 4294967296 + 1 ≤ (b + 2147483648) % 4294967296
  split <;> split <;> omega
theorem w_le (a b : Nat) : decide (nI a ≤ nI b) = wle a b := by
  rw [Bool.eq_iff_iff, decide_eq_true_iff, Int32.le_iff_toInt_le, nI_int, nI_int]
  unfold wle
  rw [Nat.ble_eq]
  show _ ↔ (a + 2147483648) % 4294967296 ≤ (b + 2147483648) % 4294967296
  split <;> split <;> omega
theorem w_eq (a b : Nat) : decide (nI a = nI b) = weq a b := by
  rw [Bool.eq_iff_iff, decide_eq_true_iff, nI_injw]
  unfold weq
  rw [Nat.beq_eq]
  exact Iff.rfl
theorem w_divI {a b c : Nat} (h : (nI a).toInt.tdiv (nI b).toInt = (c : Int) ∨ (nI a).toInt.tdiv (nI b).toInt = -(c : Int) ∧ False) : nI a / nI b = nI c := by
  rcases h with h | ⟨-, h⟩
  · apply Int32.toInt_inj.mp
    rw [Int32.toInt_div, h]
    exact Int32.toInt_ofNat'.symm
  · exact h.elim
theorem w_divN {a b c : Nat} (h : (nI a).toInt.tdiv (nI b).toInt = -(c : Int)) : nI a / nI b = nI (wneg c) := by
  rw [← w_neg]
  apply Int32.toInt_inj.mp
  have hc : (nI c).toInt = (c : Int).bmod (2 ^ 32) := Int32.toInt_ofNat'
  rw [Int32.toInt_div, h, Int32.toInt_neg, hc, Int.bmod_neg_bmod]
theorem w_div (a b : Nat) : nI a / nI b = nI (wdiv a b) := by
  unfold wdiv
  cases ha : wpos a with
  | true =>
    have h1 := wpos_iff.mp ha
    cases hb : wpos b with
    | true =>
      have h2 := wpos_iff.mp hb
      refine w_divI (Or.inl ?_)
      rw [nI_int, nI_int, if_pos h1, if_pos h2]
      exact (Int.ofNat_tdiv _ _).symm
    | false =>
      have h2 := wpos_no.mp hb
      refine w_divN ?_
      rw [nI_int, nI_int, if_pos h1, if_neg (by omega), show ((b % 4294967296 : Nat) : Int) - 4294967296 = -((4294967296 - b % 4294967296 : Nat) : Int) by omega, Int.tdiv_neg]
      rw [← Int.ofNat_tdiv]
      rfl
  | false =>
    have h1 := wpos_no.mp ha
    cases hb : wpos b with
    | true =>
      have h2 := wpos_iff.mp hb
      refine w_divN ?_
      rw [nI_int, nI_int, if_neg (by omega), if_pos h2, show ((a % 4294967296 : Nat) : Int) - 4294967296 = -((4294967296 - a % 4294967296 : Nat) : Int) by omega, Int.neg_tdiv]
      rw [← Int.ofNat_tdiv]
      rfl
    | false =>
      have h2 := wpos_no.mp hb
      refine w_divI (Or.inl ?_)
      rw [nI_int, nI_int, if_neg (by omega), if_neg (by omega), show ((a % 4294967296 : Nat) : Int) - 4294967296 = -((4294967296 - a % 4294967296 : Nat) : Int) by omega, show ((b % 4294967296 : Nat) : Int) - 4294967296 = -((4294967296 - b % 4294967296 : Nat) : Int) by omega, Int.neg_tdiv_neg]
      exact (Int.ofNat_tdiv _ _).symm
theorem w_rem0 (a b : Nat) : nI a - nI a / nI b * nI b = nI (wsub a (wmul (wdiv a b) b)) := by rw [w_div, w_mul, w_sub]
theorem wsub_def (a b : Nat) : wsub a b = (a % 4294967296 + 4294967296 - b % 4294967296) % 4294967296 := rfl
theorem wmul_def (a b : Nat) : wmul a b = a * b % 4294967296 := rfl
theorem wadd_def (a b : Nat) : wadd a b = (a + b) % 4294967296 := rfl
theorem wdiv_pp {a b : Nat} (ha : wpos a = true) (hb : wpos b = true) : wdiv a b = a % 4294967296 / (b % 4294967296) := by
  unfold wdiv
  rw [ha, hb]
  rfl
theorem w_remN {A X Y : Nat} (h3 : X + Y = A) (h5 : A < 4294967296) : (A + 4294967296 - X) % 4294967296 % 4294967296 = Y % 4294967296 := by omega
theorem w_remM {A B b : Nat} (hB : b % 4294967296 = B) (h5 : A < 4294967296) : (A + 4294967296 - (A / B * b) % 4294967296 % 4294967296) % 4294967296 % 4294967296 = A % B % 4294967296 := by
  have h4 : A / B * b % 4294967296 = A / B * B := by
    rw [← Nat.mul_mod_mod, hB]
    exact Nat.mod_eq_of_lt (Nat.lt_of_le_of_lt (Nat.div_mul_le_self _ _) h5)
  rw [h4, Nat.mod_eq_of_lt (Nat.lt_of_le_of_lt (Nat.div_mul_le_self _ _) h5)]
  refine w_remN ?_ h5
  rw [Nat.mul_comm]
  exact Nat.div_add_mod A B
theorem wrem_pp {a b : Nat} (ha : wpos a = true) (hb : wpos b = true) : wrem a b = a % 4294967296 % (b % 4294967296) := by
  unfold wrem
  rw [ha, hb, Bool.and_self, cond_true]
  rfl
theorem wrem_nn {a b : Nat} (h : (wpos a && wpos b) = false) : wrem a b = wsub a (wmul (wdiv a b) b) := by
  unfold wrem
  rw [h, cond_false]
theorem w_rem (a b : Nat) : nI a - nI a / nI b * nI b = nI (wrem a b) := by
  rw [w_rem0]
  cases hc : (wpos a && wpos b) with
  | false => rw [wrem_nn hc]
  | true =>
    simp only [Bool.and_eq_true] at hc
    rw [nI_injw, wrem_pp hc.1 hc.2, wsub_def, wmul_def, wdiv_pp hc.1 hc.2]
    exact w_remM rfl (Nat.mod_lt _ (by decide))
