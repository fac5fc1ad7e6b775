/-! ===== the digest's own loops ===== -/
section DG
variable {tb : List (List Int32)} {W : Wd}
theorem Det.dl {a : Nat} {F : Nat → kHS → Option (dR Nat)} (h : Det (F a) W) : Det (fun s => dl a fun b => F b s) W := h
theorem d_map_lp (ht : tb.length = nS) {j : Nat} (hj : j < W.cs.length) : ∀ (l m v k : Nat), k + l = 8 → Det (fun hs => lp_X9_digestOfMap tb (m + l + 1) (ad 0) j v k hs) W := by
  intro l
  induction l with
  | zero =>
    intro m v k hk
    refine Det.eq (G := fun hs => ob (dtag nS c_X9 hs.1 (ad 0)) fun _ => obW (f_X9_image tb (ad 0) j 0 hs) fun x7 s8 => dl (xadd (xmul v 31) (xi x7)) fun x12 => ob (dtag nS c_X9 s8.1 (ad 0)) fun _ => obW (f_X9_rounds tb (ad 0) j s8) fun x13 s14 => dl (xadd (xmul x12 31) (xi x13)) fun x18 => ob (dtag nS c_X9 s14.1 (ad 0)) fun _ => obW (f_X9_period tb (ad 0) j s14) fun x19 s20 => dl (xadd (xmul x18 31) x19) fun x24 => ob (dtag nS c_X9 s20.1 (ad 0)) fun _ => obW (f_X9_against tb (ad 0) j 0 0 s20) fun x25 s26 => some (.inl (xadd (xmul x24 31) (xi x25)), s26)) ?_ fun hs w => ?_
    · have d1 : Det (fun hs => f_X9_image tb (ad 0) j 0 hs) W := Det.of fun hs w => image_ok ht w hj (by
        have := (cnt_720 w.n5.1 w.n5.2 (frm_lt (W.sg j))).2
        omega)
      have d2 : Det (fun hs => f_X9_rounds tb (ad 0) j hs) W := Det.of fun hs w => rounds_ok ht w hj
      have d3 : Det (fun hs => f_X9_period tb (ad 0) j hs) W := Det.of fun hs w => period_ok ht w hj
      have d4 : Det (fun hs => f_X9_against tb (ad 0) j 0 0 hs) W := Det.of fun hs w => against_ok ht w hj (by decide) (by decide)
      refine (d1.bind fun x7 => ?_).tag
      generalize xi x7 = y7
      refine Det.dl (F := fun x12 s8 => ob (dtag nS c_X9 s8.1 (ad 0)) fun _ => obW (f_X9_rounds tb (ad 0) j s8) fun x13 s14 => dl (xadd (xmul x12 31) (xi x13)) fun x18 => ob (dtag nS c_X9 s14.1 (ad 0)) fun _ => obW (f_X9_period tb (ad 0) j s14) fun x19 s20 => dl (xadd (xmul x18 31) x19) fun x24 => ob (dtag nS c_X9 s20.1 (ad 0)) fun _ => obW (f_X9_against tb (ad 0) j 0 0 s20) fun x25 s26 => some (.inl (xadd (xmul x24 31) (xi x25)), s26)) ?_
      generalize xadd (xmul v 31) y7 = x12
      refine (d2.bind fun x13 => ?_).tag
      refine Det.dl (F := fun x18 s14 => ob (dtag nS c_X9 s14.1 (ad 0)) fun _ => obW (f_X9_period tb (ad 0) j s14) fun x19 s20 => dl (xadd (xmul x18 31) x19) fun x24 => ob (dtag nS c_X9 s20.1 (ad 0)) fun _ => obW (f_X9_against tb (ad 0) j 0 0 s20) fun x25 s26 => some (.inl (xadd (xmul x24 31) (xi x25)), s26)) ?_
      generalize xadd (xmul x12 31) (xi x13) = x18
      refine (d3.bind fun x19 => ?_).tag
      refine Det.dl (F := fun x24 s20 => ob (dtag nS c_X9 s20.1 (ad 0)) fun _ => obW (f_X9_against tb (ad 0) j 0 0 s20) fun x25 s26 => some (.inl (xadd (xmul x24 31) (xi x25)), s26)) ?_
      generalize xadd (xmul x18 31) x19 = x24
      exact (d4.bind fun x25 => Det.ret _).tag
    · rw [show m + 0 + 1 = m + 1 from rfl, lp_X9_digestOfMap_s0]
      unfold lb0_X9_digestOfMap
      rw [wle_s (by decide) (by omega), decide_eq_true (by omega), cond_true]
  | succ l ih =>
    intro m v k hk
    refine Det.eq (G := fun hs => ob (dtag nS c_X9 hs.1 (ad 0)) fun _ => obW (f_X9_ofMap tb (ad 0) j k hs) fun x s => dl (xadd (xmul v 31) (xi x)) fun a9 => dl (wadd k 1) fun b9 => lp_X9_digestOfMap tb (m + l + 1) (ad 0) j a9 b9 s) ?_ fun hs w => ?_
    · have ek : wadd k 1 = k + 1 := wadd_s (by omega)
      refine (Det.bind (F := fun hs => f_X9_ofMap tb (ad 0) j k hs) (Det.of fun hs w => ofMap_any ht w hj (by omega)) fun x => ?_).tag
      generalize xadd (xmul v 31) (xi x) = z9
      rw [ek]
      exact Det.dl (F := fun a9 s => dl (k + 1) fun b9 => lp_X9_digestOfMap tb (m + l + 1) (ad 0) j a9 b9 s) (Det.dl (F := fun b9 s => lp_X9_digestOfMap tb (m + l + 1) (ad 0) j z9 b9 s) (ih m _ (k + 1) (by omega)))
    · rw [show m + (l + 1) + 1 = (m + l + 1) + 1 from rfl, lp_X9_digestOfMap_s0]
      unfold lb0_X9_digestOfMap
      rw [wle_s (by decide) (by omega), decide_eq_false (by omega), cond_false]
theorem d_map (ht : tb.length = nS) {j v : Nat} (hj : j < W.cs.length) : Det (fun hs => f_X9_digestOfMap tb (ad 0) v j hs) W :=
  Det.chk (d_map_lp (W := W) ht hj 8 (dF - 9) v 0 rfl)
end DG
