/-! ===== the digest's own loops ===== -/
section DG
variable {tb : List (List Int32)} {W : Wd}
theorem Det.dl {a : Nat} {F : Nat → kHS → Option (dR Nat)} (h : Det (F a) W) : Det (fun s => dl a fun b => F b s) W := h
theorem d_map_lp (ht : tb.length = nS) {j : Nat} (hj : j < W.cs.length) : ∀ (l m v k : Nat), k + l = 8 → Det (fun hs => lp_X9_digestOfMap tb (m + l + 1) (ad 0) j v k hs) W := by
  intro l
  induction l with
  | zero =>
    intro m v k hk
    refine Det.eq (G := fun hs => ob (dtag nS c_X9 hs.1 (ad 0)) fun _ => obW (f_X9_image tb (ad 0) j 0 hs) fun x7 s8 => dl (xadd (xmul v 31) (xi x7)) fun x12 => ob (dtag nS c_X9 s8.1 (ad 0)) fun _ => obW (f_X9_rounds tb (ad 0) j s8) fun x13 s14 => dl (xadd (xmul x12 31) (xi x13)) fun x18 => ob (dtag nS c_X9 s14.1 (ad 0)) fun _ => obW (f_X9_period tb (ad 0) j s14) fun x19 s20 => dl (xadd (xmul x18 31) x19) fun x24 => ob (dtag nS c_X9 s20.1 (ad 0)) fun _ => obW (f_X9_against tb (ad 0) j 0 0 s20) fun x25 s26 => some (.inl (xadd (xmul x24 31) (xi x25)), s26)) ?_ fun hs w => ?_
    · have d1 : Det (fun hs => f_X9_image tb (ad 0) j 0 hs) W := Det.of fun hs w => image_ok ht w hj (by
        have := (cnt_720 w.n5.1 w.n5.2 (frm_lt (W.sg j))).2
        omega)
      have d2 : Det (fun hs => f_X9_rounds tb (ad 0) j hs) W := Det.of fun hs w => rounds_ok ht w hj
      have d3 : Det (fun hs => f_X9_period tb (ad 0) j hs) W := Det.of fun hs w => period_ok ht w hj
      have d4 : Det (fun hs => f_X9_against tb (ad 0) j 0 0 hs) W := Det.of fun hs w => against_ok ht w hj (by decide) (by decide)
      refine (d1.bind fun x7 => ?_).tag
      generalize xi x7 = y7
      refine Det.dl (F := fun x12 s8 => ob (dtag nS c_X9 s8.1 (ad 0)) fun _ => obW (f_X9_rounds tb (ad 0) j s8) fun x13 s14 => dl (xadd (xmul x12 31) (xi x13)) fun x18 => ob (dtag nS c_X9 s14.1 (ad 0)) fun _ => obW (f_X9_period tb (ad 0) j s14) fun x19 s20 => dl (xadd (xmul x18 31) x19) fun x24 => ob (dtag nS c_X9 s20.1 (ad 0)) fun _ => obW (f_X9_against tb (ad 0) j 0 0 s20) fun x25 s26 => some (.inl (xadd (xmul x24 31) (xi x25)), s26)) ?_
      generalize xadd (xmul v 31) y7 = x12
      refine (d2.bind fun x13 => ?_).tag
      refine Det.dl (F := fun x18 s14 => ob (dtag nS c_X9 s14.1 (ad 0)) fun _ => obW (f_X9_period tb (ad 0) j s14) fun x19 s20 => dl (xadd (xmul x18 31) x19) fun x24 => ob (dtag nS c_X9 s20.1 (ad 0)) fun _ => obW (f_X9_against tb (ad 0) j 0 0 s20) fun x25 s26 => some (.inl (xadd (xmul x24 31) (xi x25)), s26)) ?_
      generalize xadd (xmul x12 31) (xi x13) = x18
      refine (d3.bind fun x19 => ?_).tag
      refine Det.dl (F := fun x24 s20 => ob (dtag nS c_X9 s20.1 (ad 0)) fun _ => obW (f_X9_against tb (ad 0) j 0 0 s20) fun x25 s26 => some (.inl (xadd (xmul x24 31) (xi x25)), s26)) ?_
      generalize xadd (xmul x18 31) x19 = x24
      exact (d4.bind fun x25 => Det.ret _).tag
    · rw [show m + 0 + 1 = m + 1 from rfl, lp_X9_digestOfMap_s0]
      unfold lb0_X9_digestOfMap
      rw [wle_s (by decide) (by omega), decide_eq_true (by omega), cond_true]
  | succ l ih =>
    intro m v k hk
    refine Det.eq (G := fun hs => ob (dtag nS c_X9 hs.1 (ad 0)) fun _ => obW (f_X9_ofMap tb (ad 0) j k hs) fun x s => dl (xadd (xmul v 31) (xi x)) fun a9 => dl (wadd k 1) fun b9 => lp_X9_digestOfMap tb (m + l + 1) (ad 0) j a9 b9 s) ?_ fun hs w => ?_
    · have ek : wadd k 1 = k + 1 := wadd_s (by omega)
      refine (Det.bind (F := fun hs => f_X9_ofMap tb (ad 0) j k hs) (Det.of fun hs w => ofMap_any ht w hj (by omega)) fun x => ?_).tag
      generalize xadd (xmul v 31) (xi x) = z9
      rw [ek]
      exact Det.dl (F := fun a9 s => dl (k + 1) fun b9 => lp_X9_digestOfMap tb (m + l + 1) (ad 0) j a9 b9 s) (Det.dl (F := fun b9 s => lp_X9_digestOfMap tb (m + l + 1) (ad 0) j z9 b9 s) (ih m _ (k + 1) (by omega)))
    · rw [show m + (l + 1) + 1 = (m + l + 1) + 1 from rfl, lp_X9_digestOfMap_s0]
      unfold lb0_X9_digestOfMap
      rw [wle_s (by decide) (by omega), decide_eq_false (by omega), cond_false]
theorem d_map (ht : tb.length = nS) {j v : Nat} (hj : j < W.cs.length) : Det (fun hs => f_X9_digestOfMap tb (ad 0) v j hs) W :=
  Det.chk (d_map_lp (W := W) ht hj 8 (dF - 9) v 0 rfl)
theorem d_obj2 (ht : tb.length = nS) {f m : Nat} (hf : f < 3) (H : ∀ v, Det (fun hs => lp_X9_digestOfObjects tb m 1 (ad 0) v (f + 1) 0 hs) W) : ∀ (l v a : Nat), a + l = 4 → Det (fun hs => lp_X9_digestOfObjects tb (m + l + 1) 2 (ad 0) v f a hs) W := by
  intro l
  induction l with
  | zero =>
    intro v a ha
    refine (H v).eq fun hs w => ?_
    rw [show m + 0 + 1 = m + 1 from rfl, lp_X9_digestOfObjects_s2]
    unfold lb2_X9_digestOfObjects
    rw [wle_s (by decide) (by omega), decide_eq_true (by omega), cond_true, dl_eq, wadd_s (by omega)]
  | succ l ih =>
    intro v a ha
    refine Det.eq (G := fun hs => ob (dtag nS c_X9 hs.1 (ad 0)) fun _ => obW (f_X9_signs tb (ad 0) f a hs) fun x s => dl (xadd (xmul v 31) (xi x)) fun a9 => dl (wadd a 1) fun b9 => lp_X9_digestOfObjects tb (m + l + 1) 2 (ad 0) a9 f b9 s) ?_ fun hs w => ?_
    · have ek : wadd a 1 = a + 1 := wadd_s (by omega)
      refine ((d_signs ht hf (by omega)).bind fun x => ?_).tag
      generalize xadd (xmul v 31) (xi x) = z9
      rw [ek]
      exact Det.dl (F := fun a9 s => dl (a + 1) fun b9 => lp_X9_digestOfObjects tb (m + l + 1) 2 (ad 0) a9 f b9 s) (Det.dl (F := fun b9 s => lp_X9_digestOfObjects tb (m + l + 1) 2 (ad 0) z9 f b9 s) (ih _ (a + 1) (by omega)))
    · rw [show m + (l + 1) + 1 = (m + l + 1) + 1 from rfl, lp_X9_digestOfObjects_s2]
      unfold lb2_X9_digestOfObjects
      rw [wle_s (by decide) (by omega), decide_eq_false (by omega), cond_false]
theorem d_obj1 (ht : tb.length = nS) : ∀ (l m v f : Nat), f + l = 3 → Det (fun hs => lp_X9_digestOfObjects tb (m + 6 * l + 1) 1 (ad 0) v f 0 hs) W := by
  intro l
  induction l with
  | zero =>
    intro m v f hf
    refine (Det.ret v).eq fun hs w => ?_
    rw [show m + 6 * 0 + 1 = m + 1 from rfl, lp_X9_digestOfObjects_s1]
    unfold lb1_X9_digestOfObjects
    rw [wle_s (by decide) (by omega), decide_eq_true (by omega), cond_true]
  | succ l ih =>
    intro m v f hf
    refine Det.eq (G := fun hs => ob (dtag nS c_X9 hs.1 (ad 0)) fun _ => obW (f_X9_objects tb (ad 0) f hs) fun x s => dl (xadd (xmul v 31) (xi x)) fun a9 => lp_X9_digestOfObjects tb (m + 6 * l + 1 + 4 + 1) 2 (ad 0) a9 f 0 s) ?_ fun hs w => ?_
    · refine (Det.bind (F := fun hs => f_X9_objects tb (ad 0) f hs) (Det.of fun hs w => objects_ok ht w (by omega)) fun x => ?_).tag
      generalize xadd (xmul v 31) (xi x) = z9
      exact Det.dl (F := fun a9 s => lp_X9_digestOfObjects tb (m + 6 * l + 1 + 4 + 1) 2 (ad 0) a9 f 0 s) (d_obj2 ht (by omega) (fun v => ih m v (f + 1) (by omega)) 4 z9 0 rfl)
    · rw [show m + 6 * (l + 1) + 1 = (m + 6 * l + 1 + 4 + 1) + 1 by omega, lp_X9_digestOfObjects_s1]
      unfold lb1_X9_digestOfObjects
      rw [wle_s (by decide) (by omega), decide_eq_false (by omega), cond_false]
theorem d_obj0 (ht : tb.length = nS) : ∀ (l m v k : Nat), k + l = 7 → Det (fun hs => lp_X9_digestOfObjects tb (m + 6 * 3 + 1 + l + 1) 0 (ad 0) v k 0 hs) W := by
  intro l
  induction l with
  | zero =>
    intro m v k hk
    refine (d_obj1 ht 3 m v 0 rfl).eq fun hs w => ?_
    rw [show m + 6 * 3 + 1 + 0 + 1 = (m + 6 * 3 + 1) + 1 from rfl, lp_X9_digestOfObjects_s0]
    unfold lb0_X9_digestOfObjects
    rw [wle_s (by decide) (by omega), decide_eq_true (by omega), cond_true]
  | succ l ih =>
    intro m v k hk
    refine Det.eq (G := fun hs => ob (dtag nS c_X9 hs.1 (ad 0)) fun _ => obW (f_X9_many tb (ad 0) k hs) fun x s => dl (xadd (xmul v 31) (xi x)) fun a9 => dl (wadd k 1) fun b9 => lp_X9_digestOfObjects tb (m + 6 * 3 + 1 + l + 1) 0 (ad 0) a9 b9 0 s) ?_ fun hs w => ?_
    · have ek : wadd k 1 = k + 1 := wadd_s (by omega)
      refine ((d_many ht (by omega)).bind fun x => ?_).tag
      generalize xadd (xmul v 31) (xi x) = z9
      rw [ek]
      exact Det.dl (F := fun a9 s => dl (k + 1) fun b9 => lp_X9_digestOfObjects tb (m + 6 * 3 + 1 + l + 1) 0 (ad 0) a9 b9 0 s) (Det.dl (F := fun b9 s => lp_X9_digestOfObjects tb (m + 6 * 3 + 1 + l + 1) 0 (ad 0) z9 b9 0 s) (ih m _ (k + 1) (by omega)))
    · rw [show m + 6 * 3 + 1 + (l + 1) + 1 = (m + 6 * 3 + 1 + l + 1) + 1 from rfl, lp_X9_digestOfObjects_s0]
      unfold lb0_X9_digestOfObjects
      rw [wle_s (by decide) (by omega), decide_eq_false (by omega), cond_false]
theorem d_obj (ht : tb.length = nS) (v : Nat) : Det (fun hs => f_X9_digestOfObjects tb (ad 0) v hs) W :=
  Det.chk (d_obj0 (W := W) ht 7 (dF - 27) v 0 rfl)
theorem d_cl4 (ht : tb.length = nS) {j m : Nat} (hj : j < W.ks.length) (hj9 : j < 100) (H : ∀ v, Det (fun hs => lp_X9_digest tb m 3 (ad 0) v (j + 1) 0 hs) W) : ∀ (l v a : Nat), a + l = 5 → Det (fun hs => lp_X9_digest tb (m + l + 1) 4 (ad 0) v j a hs) W := by
  intro l
  induction l with
  | zero =>
    intro v a ha
    refine (H v).eq fun hs w => ?_
    rw [show m + 0 + 1 = m + 1 from rfl, lp_X9_digest_s4]
    unfold lb4_X9_digest
    rw [wle_s (by decide) (by omega), decide_eq_true (by omega), cond_true, dl_eq, wadd_s (by omega)]
  | succ l ih =>
    intro v a ha
    refine Det.eq (G := fun hs => ob (dtag nS c_X9 hs.1 (ad 0)) fun _ => obW (f_X9_ofClaim tb (ad 0) j a hs) fun x s => dl (xadd (xmul v 31) (xi x)) fun a9 => dl (wadd a 1) fun b9 => lp_X9_digest tb (m + l + 1) 4 (ad 0) a9 j b9 s) ?_ fun hs w => ?_
    · have ek : wadd a 1 = a + 1 := wadd_s (by omega)
      refine ((d_claim ht hj (by omega)).bind fun x => ?_).tag
      generalize xadd (xmul v 31) (xi x) = z9
      rw [ek]
      exact Det.dl (F := fun a9 s => dl (a + 1) fun b9 => lp_X9_digest tb (m + l + 1) 4 (ad 0) a9 j b9 s) (Det.dl (F := fun b9 s => lp_X9_digest tb (m + l + 1) 4 (ad 0) z9 j b9 s) (ih _ (a + 1) (by omega)))
    · rw [show m + (l + 1) + 1 = (m + l + 1) + 1 from rfl, lp_X9_digest_s4]
      unfold lb4_X9_digest
      rw [wle_s (by decide) (by omega), decide_eq_false (by omega), cond_false]
theorem d_wk2 (ht : tb.length = nS) {j m : Nat} (hj : j < W.ws.length) (hj9 : j < 100) (H : ∀ v, Det (fun hs => lp_X9_digest tb m 1 (ad 0) v (j + 1) 0 hs) W) : ∀ (l v a : Nat), a + l = 5 → Det (fun hs => lp_X9_digest tb (m + l + 1) 2 (ad 0) v j a hs) W := by
  intro l
  induction l with
  | zero =>
    intro v a ha
    refine (H v).eq fun hs w => ?_
    rw [show m + 0 + 1 = m + 1 from rfl, lp_X9_digest_s2]
    unfold lb2_X9_digest
    rw [wle_s (by decide) (by omega), decide_eq_true (by omega), cond_true, dl_eq, wadd_s (by omega)]
  | succ l ih =>
    intro v a ha
    refine Det.eq (G := fun hs => ob (dtag nS c_X9 hs.1 (ad 0)) fun _ => obW (f_X9_ofWalker tb (ad 0) j a hs) fun x s => dl (xadd (xmul v 31) (xi x)) fun a9 => dl (wadd a 1) fun b9 => lp_X9_digest tb (m + l + 1) 2 (ad 0) a9 j b9 s) ?_ fun hs w => ?_
    · have ek : wadd a 1 = a + 1 := wadd_s (by omega)
      refine ((d_walker ht hj (by omega)).bind fun x => ?_).tag
      generalize xadd (xmul v 31) (xi x) = z9
      rw [ek]
      exact Det.dl (F := fun a9 s => dl (a + 1) fun b9 => lp_X9_digest tb (m + l + 1) 2 (ad 0) a9 j b9 s) (Det.dl (F := fun b9 s => lp_X9_digest tb (m + l + 1) 2 (ad 0) z9 j b9 s) (ih _ (a + 1) (by omega)))
    · rw [show m + (l + 1) + 1 = (m + l + 1) + 1 from rfl, lp_X9_digest_s2]
      unfold lb2_X9_digest
      rw [wle_s (by decide) (by omega), decide_eq_false (by omega), cond_false]
theorem d_cl3 (ht : tb.length = nS) (h8 : W.ks.length ≤ 8) : ∀ (l m v j : Nat), j + l = W.ks.length → Det (fun hs => lp_X9_digest tb (m + 7 * l + 1) 3 (ad 0) v j 0 hs) W := by
  intro l
  induction l with
  | zero =>
    intro m v j hj
    refine Det.eq (G := fun hs => ob (dtag nS c_X9 hs.1 (ad 0)) fun _ => obW (f_X9_sorted tb (ad 0) 1 hs) fun x s => some (.inl (xadd (xmul v 31) (xi x)), s)) ?_ fun hs w => ?_
    · exact (Det.bind (F := fun hs => f_X9_sorted tb (ad 0) 1 hs) (Det.of fun hs w => sorted_ok ht w (by decide)) fun x => Det.ret _).tag
    · rw [show m + 7 * 0 + 1 = m + 1 from rfl, lp_X9_digest_s3]
      unfold lb3_X9_digest
      rw [w.w6.2.2.1, ob_s, wle_s (by omega) (by omega), decide_eq_true (by omega), cond_true]
  | succ l ih =>
    intro m v j hj
    refine (d_cl4 ht (show j < W.ks.length by omega) (by omega) (fun v => ih m v (j + 1) (by omega)) 5 v 0 rfl).eq fun hs w => ?_
    rw [show m + 7 * (l + 1) + 1 = (m + 7 * l + 1 + 5 + 1) + 1 by omega, lp_X9_digest_s3]
    unfold lb3_X9_digest
    rw [w.w6.2.2.1, ob_s, wle_s (by omega) (by omega), decide_eq_false (by omega), cond_false]
theorem d_wk1 (ht : tb.length = nS) (h8 : W.ws.length ≤ 4) {m : Nat} (H : ∀ v, Det (fun hs => lp_X9_digest tb m 3 (ad 0) v 0 0 hs) W) : ∀ (l v j : Nat), j + l = W.ws.length → Det (fun hs => lp_X9_digest tb (m + 7 * l + 1) 1 (ad 0) v j 0 hs) W := by
  intro l
  induction l with
  | zero =>
    intro v j hj
    refine (H v).eq fun hs w => ?_
    rw [show m + 7 * 0 + 1 = m + 1 from rfl, lp_X9_digest_s1]
    unfold lb1_X9_digest
    rw [w.w6.2.1, ob_s, wle_s (by omega) (by omega), decide_eq_true (by omega), cond_true]
  | succ l ih =>
    intro v j hj
    refine (d_wk2 ht (show j < W.ws.length by omega) (by omega) (fun v => ih v (j + 1) (by omega)) 5 v 0 rfl).eq fun hs w => ?_
    rw [show m + 7 * (l + 1) + 1 = (m + 7 * l + 1 + 5 + 1) + 1 by omega, lp_X9_digest_s1]
    unfold lb1_X9_digest
    rw [w.w6.2.1, ob_s, wle_s (by omega) (by omega), decide_eq_false (by omega), cond_false]
theorem d_mp0 (ht : tb.length = nS) (h8 : W.cs.length ≤ 8) {m : Nat} (H : ∀ v, Det (fun hs => lp_X9_digest tb m 1 (ad 0) v 0 0 hs) W) : ∀ (l v j : Nat), j + l = W.cs.length → Det (fun hs => lp_X9_digest tb (m + l + 1) 0 (ad 0) v j 0 hs) W := by
  intro l
  induction l with
  | zero =>
    intro v j hj
    refine (H v).eq fun hs w => ?_
    rw [show m + 0 + 1 = m + 1 from rfl, lp_X9_digest_s0]
    unfold lb0_X9_digest
    rw [w.w6.1, ob_s, wle_s (by omega) (by omega), decide_eq_true (by omega), cond_true]
  | succ l ih =>
    intro v j hj
    refine Det.eq (G := fun hs => ob (dtag nS c_X9 hs.1 (ad 0)) fun _ => obW (f_X9_digestOfMap tb (ad 0) v j hs) fun x s => dl (wadd j 1) fun b9 => lp_X9_digest tb (m + l + 1) 0 (ad 0) x b9 0 s) ?_ fun hs w => ?_
    · have ek : wadd j 1 = j + 1 := wadd_s (by omega)
      refine ((d_map ht (by omega)).bind fun x => ?_).tag
      rw [ek]
      exact Det.dl (F := fun b9 s => lp_X9_digest tb (m + l + 1) 0 (ad 0) x b9 0 s) (ih _ (j + 1) (by omega))
    · rw [show m + (l + 1) + 1 = (m + l + 1) + 1 from rfl, lp_X9_digest_s0]
      unfold lb0_X9_digest
      rw [w.w6.1, ob_s, wle_s (by omega) (by omega), decide_eq_false (by omega), cond_false]
theorem d_digest (ht : tb.length = nS) : Det (fun hs => f_X9_digest tb (ad 0) hs) W := by
  obtain hb | hb := Classical.em (∃ hs, World hs W)
  · obtain ⟨h0, w0⟩ := hb
    obtain ⟨_, _, _, b1, b2, b3⟩ := w0.w6
    refine Det.chk (((d_obj ht 9503).bind fun x => ?_).tag)
    have e := d_mp0 (W := W) ht b1 (fun v => d_wk1 ht b2 (fun v => d_cl3 ht b3 W.ks.length (dF - 7 * W.ks.length - 7 * W.ws.length - W.cs.length - 3) v 0 (by omega)) W.ws.length v 0 (by omega)) W.cs.length x 0 (by omega)
    rw [show dF - 7 * W.ks.length - 7 * W.ws.length - W.cs.length - 3 + 7 * W.ks.length + 1 + 7 * W.ws.length + 1 + W.cs.length + 1 = dF by unfold dF; omega] at e
    exact e
  · exact ⟨0, fun hs w => absurd ⟨hs, w⟩ hb⟩
end DG
