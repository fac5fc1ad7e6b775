noncomputable def tst_len (o : Option (dR Nat)) : Nat := @Option.rec _ (fun _ => Nat) 0 (fun y => y.2.1.length) o
theorem tst_3 : Nat.beq (tst_len (f_X4_of (kT7 ++ [[]]) 6 ([], 0, 0))) 41 = true := by decide +kernel
