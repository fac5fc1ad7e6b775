/-! ===== the reference's own rows: by steps ===== -/
theorem set_same {h : List kCel} {i : Nat} {x : kCel} (hq : h[i]? = some x) : h.set i x = h := by
  apply List.ext_getElem?
  intro j
  by_cases hj : i = j
  · subst hj
    rw [hq, List.getElem?_set_self (List.getElem?_eq_some_iff.mp hq).1]
  · rw [List.getElem?_set_ne hj]
noncomputable def lpGk (k : Nat) : Nat → Nat → List Nat → Option (Nat × List Nat) := @Nat.rec (fun _ => Nat → Nat → List Nat → Option (Nat × List Nat)) (fun f _ P => some (f, P)) (fun _ ih f c P => ob (f_X12_isPath c 12) fun x => bif weq x 0 then ih f (Nat.succ c) P else (bif Nat.blt f P.length then ih (Nat.succ f) (Nat.succ c) (P.set f c) else none)) k
theorem lpGk_s (k f c : Nat) (P : List Nat) : lpGk (k + 1) f c P = ob (f_X12_isPath c 12) fun x => bif weq x 0 then lpGk k f (Nat.succ c) P else (bif Nat.blt f P.length then lpGk k (Nat.succ f) (Nat.succ c) (P.set f c) else none) := rfl
theorem grow_k {i : Nat} {cc : Nat × Nat} (k : Nat) : ∀ (m f c : Nat) (P : List Nat) (q : Nat × List Nat) (h : List kCel), lpGk k f c P = some q → c + k ≤ 4096 → f ≤ c → h[i]? = some (100, ints P) → P.length ≤ 1000 → lp_X12_grow tb0 (m + k) 0 70 6 (ad i) f c 0 (h, cc) = lp_X12_grow tb0 m 0 70 6 (ad i) q.1 (c + k) 0 (h.set i (100, ints q.2), cc) ∧ q.1 ≤ c + k ∧ q.2.length = P.length := by
  induction k with
  | zero =>
    intro m f c P q h h1 _ hf hq _
    have h9 : some (f, P) = some q := h1
    have h8 := Option.some.inj h9
    subst h8
    refine ⟨?_, hf, rfl⟩
    rw [Nat.add_zero, Nat.add_zero, set_same hq]
  | succ k ih =>
    intro m f c P q h h1 hc hf hq hl
    rw [lpGk_s] at h1
    obtain ⟨x, h2, h3⟩ := ob_some h1
    rw [show m + (k + 1) = (m + k) + 1 from rfl, lp_X12_grow_s0]
    unfold lb0_X12_grow
    rw [show wmul 2 6 = 12 by decide +kernel, show wshl 1 12 = 4096 by decide +kernel, wle_s (by omega) (by omega), decide_eq_false (by omega), cond_false, h2, ob_s2, dl_2, dl_2, wadd_s (by omega), wadd_s (by omega)]
    cases hx : weq x 0 with
    | true =>
      rw [hx, cond_true] at h3
      rw [cond_true]
      have := ih m f (c + 1) P q h h3 (by omega) (by omega) hq hl
      rw [show c + 1 + k = c + (k + 1) by omega] at this
      exact this
    | false =>
      rw [hx, cond_false] at h3
      rw [cond_false]
      cases hb : Nat.blt f P.length with
      | false => rw [hb] at h3; cases h3
      | true =>
        rw [hb, cond_true] at h3
        have hfl : f < P.length := Nat.le_of_ble_eq_true hb
        have hil : i < h.length := (List.getElem?_eq_some_iff.mp hq).1
        have hd := dast_row (hs := (h, cc)) (v := c) hq hfl (by omega)
        rw [hd, ob_s2, dl_2]
        have := ih m (f + 1) (c + 1) (P.set f c) q (h.set i (100, ints (P.set f c))) h3 (by omega) (by omega) (List.getElem?_set_self hil) (by rw [List.length_set]; exact hl)
        rw [show c + 1 + k = c + (k + 1) by omega, List.set_set, List.length_set] at this
        exact this
set_option maxRecDepth 100000 in
theorem gk_0 : lpGk 512 0 0 (List.replicate 132 0) = some (0, (p6.take 0 ++ List.replicate 132 0)) := by decide +kernel
set_option maxRecDepth 100000 in
theorem gk_512 : lpGk 512 0 512 (p6.take 0 ++ List.replicate 132 0) = some (0, (p6.take 0 ++ List.replicate 132 0)) := by decide +kernel
set_option maxRecDepth 100000 in
theorem gk_1024 : lpGk 512 0 1024 (p6.take 0 ++ List.replicate 132 0) = some (0, (p6.take 0 ++ List.replicate 132 0)) := by decide +kernel
set_option maxRecDepth 100000 in
theorem gk_1536 : lpGk 512 0 1536 (p6.take 0 ++ List.replicate 132 0) = some (0, (p6.take 0 ++ List.replicate 132 0)) := by decide +kernel
set_option maxRecDepth 100000 in
theorem gk_2048 : lpGk 512 0 2048 (p6.take 0 ++ List.replicate 132 0) = some (0, (p6.take 0 ++ List.replicate 132 0)) := by decide +kernel
set_option maxRecDepth 100000 in
theorem gk_2560 : lpGk 512 0 2560 (p6.take 0 ++ List.replicate 132 0) = some (42, (p6.take 42 ++ List.replicate 90 0)) := by decide +kernel
set_option maxRecDepth 100000 in
theorem gk_3072 : lpGk 512 42 3072 (p6.take 42 ++ List.replicate 90 0) = some (84, (p6.take 84 ++ List.replicate 48 0)) := by decide +kernel
set_option maxRecDepth 100000 in
theorem gk_3584 : lpGk 512 84 3584 (p6.take 84 ++ List.replicate 48 0) = some (132, (p6.take 132 ++ List.replicate 0 0)) := by decide +kernel
noncomputable def hG : List kCel := (((hX6.set 49 (c_X12, [.int (nI 0), .int (nI 3), .ref 70, .ref 71, .ref 72, .ref 73, .int (nI 0), .int (nI 0), .ref 74, .ref 75, .ref 76])).set 52 (c_Jx4a65c, [.int (nI (wadd 0 1)), .ref 8, .int (nI 0)])).set 52 (c_Jx4a65c, [.int (nI (wadd 0 1)), .ref 8, .int (nI 0)])).set 49 (c_X12, [.int (nI 0), .int (nI 6), .ref 70, .ref 71, .ref 72, .ref 73, .int (nI 0), .int (nI 0), .ref 74, .ref 75, .ref 76]) ++ [(100, ints (List.replicate 132 0))]
set_option maxRecDepth 100000 in
theorem grow_loop : lp_X12_grow tb0 dF 0 70 6 125 0 0 0 (hG, 105, 20330) = lp_X12_grow tb0 95904 0 70 6 125 132 4096 0 (hG.set 104 (100, ints (p6.take 132 ++ List.replicate 0 0)), 105, 20330) := by
  have hg : hG[104]? = some (100, ints (List.replicate 132 0)) := rfl
  have hil : 104 < hG.length := (List.getElem?_eq_some_iff.mp hg).1
  rw [show dF = 95904 + 512 + 512 + 512 + 512 + 512 + 512 + 512 + 512 from rfl, show 125 = ad 104 from rfl]
  rw [(grow_k (i := 104) 512 (95904 + 512 + 512 + 512 + 512 + 512 + 512 + 512) _ _ _ _ _ gk_0 (by decide +kernel) (by decide) hg (by decide +kernel)).1, show 0 + 512 = 512 from rfl]
  rw [(grow_k (i := 104) 512 (95904 + 512 + 512 + 512 + 512 + 512 + 512) _ _ _ _ _ gk_512 (by decide +kernel) (by decide) (List.getElem?_set_self hil) (by decide +kernel)).1, List.set_set, show 512 + 512 = 1024 from rfl]
  rw [(grow_k (i := 104) 512 (95904 + 512 + 512 + 512 + 512 + 512) _ _ _ _ _ gk_1024 (by decide +kernel) (by decide) (List.getElem?_set_self hil) (by decide +kernel)).1, List.set_set, show 1024 + 512 = 1536 from rfl]
  rw [(grow_k (i := 104) 512 (95904 + 512 + 512 + 512 + 512) _ _ _ _ _ gk_1536 (by decide +kernel) (by decide) (List.getElem?_set_self hil) (by decide +kernel)).1, List.set_set, show 1536 + 512 = 2048 from rfl]
  rw [(grow_k (i := 104) 512 (95904 + 512 + 512 + 512) _ _ _ _ _ gk_2048 (by decide +kernel) (by decide) (List.getElem?_set_self hil) (by decide +kernel)).1, List.set_set, show 2048 + 512 = 2560 from rfl]
  rw [(grow_k (i := 104) 512 (95904 + 512 + 512) _ _ _ _ _ gk_2560 (by decide +kernel) (by decide) (List.getElem?_set_self hil) (by decide +kernel)).1, List.set_set, show 2560 + 512 = 3072 from rfl]
  rw [(grow_k (i := 104) 512 (95904 + 512) _ _ _ _ _ gk_3072 (by decide +kernel) (by decide) (List.getElem?_set_self hil) (by decide +kernel)).1, List.set_set, show 3072 + 512 = 3584 from rfl]
  rw [(grow_k (i := 104) 512 (95904) _ _ _ _ _ gk_3584 (by decide +kernel) (by decide) (List.getElem?_set_self hil) (by decide +kernel)).1, List.set_set, show 3584 + 512 = 4096 from rfl]
