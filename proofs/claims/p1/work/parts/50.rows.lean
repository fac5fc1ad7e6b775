/-! ===== the rows of the sizes 5 and 6 are there: what they are does not matter, but for the codes ===== -/
theorem rkl_t (cs : List Nat) (code : Nat) : ∀ (k n last leap : Nat), leap < 2 ^ k → k ≤ 10 → ∃ r, rkl cs (n + k + 1) code last leap = some r
  | 0, n, last, leap, h, _ => by
    have e : leap = 0 := by have : 2 ^ 0 = 1 := rfl; omega
    subst e
    rw [rkl_s]
    unfold rkb
    rw [show wle 0 0 = true by decide +kernel, cond_true]
    cases wlt last 0 with
    | true => exact ⟨_, rfl⟩
    | false =>
      rw [cond_false]
      cases (!weq (cs.getD last 0) code) with
      | true => exact ⟨_, rfl⟩
      | false => exact ⟨_, rfl⟩
  | k + 1, n, last, leap, h, hk => by
    have h10 : leap < 2048 := Nat.lt_of_lt_of_le h (Nat.le_trans (Nat.pow_le_pow_right (by decide) (by omega : k + 1 ≤ 10)) (by decide))
    have ed : wdiv leap 2 = leap / 2 := by
      rw [wdiv_pp (wpos_iff.mpr (by omega)) (by decide +kernel)]
      show leap % 4294967296 / 2 = _
      rw [Nat.mod_eq_of_lt (by omega)]
    have ih := fun last => rkl_t cs code k n last (leap / 2) (by
      have e : 2 ^ (k + 1) = 2 ^ k * 2 := Nat.pow_succ ..
      omega) (by omega)
    rw [show n + (k + 1) + 1 = (n + k + 1) + 1 from rfl, rkl_s]
    unfold rkb
    rw [ed]
    cases wle leap 0 with
    | true =>
      rw [cond_true]
      cases wlt last 0 with
      | true => exact ⟨_, rfl⟩
      | false =>
        rw [cond_false]
        cases (!weq (cs.getD last 0) code) with
        | true => exact ⟨_, rfl⟩
        | false => exact ⟨_, rfl⟩
    | false =>
      rw [cond_false]
      cases wle cs.length (wadd last leap) with
      | true => rw [cond_true]; exact ih _
      | false =>
        rw [cond_false]
        cases wlt code (cs.getD (wadd last leap) 0) with
        | true => rw [cond_true]; exact ih _
        | false => rw [cond_false]; exact ih _
theorem rkf_t (cs : List Nat) (code : Nat) : ∃ r, rkf cs code = some r := by
  unfold rkf
  rw [show dF = 99989 + 10 + 1 from rfl]
  exact rkl_t cs code 10 99989 _ 512 (by decide) (by decide)
theorem lpI_s (cf ct : List Nat) (step n m : Nat) : lpI cf ct step n (m + 1) = lpIb cf ct step n (lpI cf ct step n m) := rfl
theorem lpI_t {cf ct : List Nat} {step n : Nat} (hl : cf.length ≤ 1000) (h : ∀ c ∈ cf, ∃ x, f_X4_imageCode step c n = some x) : ∀ (j k m : Nat) (R : List Nat), k + j = cf.length → ∃ R', lpI cf ct step n (m + j + 1) k R = some R'
  | 0, k, m, R, hk => by
    rw [lpI_s]
    unfold lpIb
    rw [wle_s (by omega) (by omega), decide_eq_true (by omega), cond_true]
    exact ⟨_, rfl⟩
  | j + 1, k, m, R, hk => by
    rw [show m + (j + 1) + 1 = (m + j + 1) + 1 from rfl, lpI_s]
    unfold lpIb
    have hkl : k < cf.length := by omega
    have e : cf.getD k 0 = cf[k] := by rw [List.getD_eq_getElem?_getD, List.getElem?_eq_getElem hkl]; rfl
    obtain ⟨x, hx⟩ := h (cf.getD k 0) (by rw [e]; exact List.getElem_mem hkl)
    obtain ⟨r, hr⟩ := rkf_t ct x
    rw [wle_s (by omega) (by omega), decide_eq_false (by omega), cond_false, hx, ob_s2, hr, ob_s2, wadd_s (by omega)]
    exact lpI_t hl h j (k + 1) m _ (by omega)
theorem lpV_s (cf : List Nat) (f w n m : Nat) : lpV cf f w n (m + 1) = lpVb cf f w n (lpV cf f w n m) := rfl
theorem lpV_t {cf : List Nat} {f w n : Nat} (hl : cf.length ≤ 1000) (h : ∀ c ∈ cf, ∃ x, f_X4_valueByCode f w c n = some x ∧ Nat.blt x 37 = true) : ∀ (j k m : Nat) (R K : List Nat), k + j = cf.length → K.length = 37 → ∃ R', lpV cf f w n (m + j + 1) k R K = some R'
  | 0, k, m, R, K, hk, _ => by
    rw [lpV_s]
    unfold lpVb
    rw [wle_s (by omega) (by omega), decide_eq_true (by omega), cond_true]
    exact ⟨_, rfl⟩
  | j + 1, k, m, R, K, hk, hK => by
    rw [show m + (j + 1) + 1 = (m + j + 1) + 1 from rfl, lpV_s]
    unfold lpVb
    have hkl : k < cf.length := by omega
    have e : cf.getD k 0 = cf[k] := by rw [List.getD_eq_getElem?_getD, List.getElem?_eq_getElem hkl]; rfl
    obtain ⟨x, hx, hb⟩ := h (cf.getD k 0) (by rw [e]; exact List.getElem_mem hkl)
    rw [wle_s (by omega) (by omega), decide_eq_false (by omega), cond_false, hx, ob_s2, hK, hb, cond_true, wadd_s (by omega)]
    exact lpV_t hl h j (k + 1) m _ _ (by omega) (by rw [List.length_set]; exact hK)
/-- the loop over the codes, some steps of it -/
noncomputable def lpPk (n k : Nat) : Nat → Nat → List Nat → Option (Nat × List Nat) := @Nat.rec (fun _ => Nat → Nat → List Nat → Option (Nat × List Nat)) (fun f _ P => some (f, P)) (fun _ ih f c P => ob (f_X3_isPath c n) fun x => bif weq x 0 then ih f (Nat.succ c) P else ih (Nat.succ f) (Nat.succ c) (P.set f c)) k
theorem lpP_s (n m : Nat) : lpP n (m + 1) = lpPb n (lpP n m) := rfl
theorem lpPk_s (n k f c : Nat) (P : List Nat) : lpPk n (k + 1) f c P = ob (f_X3_isPath c n) fun x => bif weq x 0 then lpPk n k f (Nat.succ c) P else lpPk n k (Nat.succ f) (Nat.succ c) (P.set f c) := rfl
theorem lpP_k {n : Nat} (hn : wshl 1 (wmul 2 n) ≤ 4096) (k : Nat) : ∀ (m f c : Nat) (P : List Nat) (q : Nat × List Nat), lpPk n k f c P = some q → c + k ≤ wshl 1 (wmul 2 n) → f ≤ c → lpP n (m + k) f c P = lpP n m q.1 (c + k) q.2 ∧ q.1 ≤ c + k := by
  induction k with
  | zero =>
    intro m f c P q h _ hf
    have h9 : some (f, P) = some q := h
    have h8 := Option.some.inj h9
    subst h8
    exact ⟨by rw [Nat.add_zero, Nat.add_zero], hf⟩
  | succ k ih =>
    intro m f c P q h hc hf
    rw [lpPk_s] at h
    obtain ⟨x, h1, h2⟩ := ob_some h
    rw [show m + (k + 1) = (m + k) + 1 from rfl, lpP_s]
    unfold lpPb
    rw [wle_s (by omega) (by omega), decide_eq_false (by omega), cond_false, h1, ob_s2, wadd_s (by omega), wadd_s (by omega)]
    cases hx : weq x 0 with
    | true =>
      rw [hx, cond_true] at h2
      rw [cond_true]
      have := ih m f (c + 1) P q h2 (by omega) (by omega)
      rw [show c + 1 + k = c + (k + 1) by omega] at this
      exact this
    | false =>
      rw [hx, cond_false] at h2
      rw [cond_false]
      have := ih m (f + 1) (c + 1) (P.set f c) q h2 (by omega) (by omega)
      rw [show c + 1 + k = c + (k + 1) by omega] at this
      exact this
noncomputable def lpOk (n k : Nat) : Nat → List Nat → Option (List Nat) := @Nat.rec (fun _ => Nat → List Nat → Option (List Nat)) (fun _ O => some O) (fun _ ih r O => ob (f_X2_ofRank r n) fun v => ih (Nat.succ r) (O.set r v)) k
theorem lpO_s (n m : Nat) : lpO n (m + 1) = lpOb n (lpO n m) := rfl
theorem lpOk_s (n k r : Nat) (O : List Nat) : lpOk n (k + 1) r O = ob (f_X2_ofRank r n) fun v => lpOk n k (Nat.succ r) (O.set r v) := rfl
theorem lpO_k {n : Nat} (k : Nat) : ∀ (m r : Nat) (O q : List Nat), lpOk n k r O = some q → r + k ≤ O.length → O.length ≤ 1000 → lpO n (m + k) r O = lpO n m (r + k) q ∧ q.length = O.length := by
  induction k with
  | zero =>
    intro m r O q h _ _
    have h9 : some O = some q := h
    have h8 := Option.some.inj h9
    subst h8
    exact ⟨by rw [Nat.add_zero, Nat.add_zero], rfl⟩
  | succ k ih =>
    intro m r O q h hr hl
    rw [lpOk_s] at h
    obtain ⟨x, h1, h2⟩ := ob_some h
    rw [show m + (k + 1) = (m + k) + 1 from rfl, lpO_s]
    unfold lpOb
    rw [wle_s (by omega) (by omega), decide_eq_false (by omega), cond_false, h1, ob_s2, wadd_s (by omega)]
    have := ih m (r + 1) (O.set r x) q h2 (by rw [List.length_set]; omega) (by rw [List.length_set]; omega)
    rw [show r + 1 + k = r + (k + 1) by omega, List.length_set] at this
    exact this
noncomputable def okI (s n c : Nat) : Bool := Option.isSome (f_X4_imageCode s c n)
noncomputable def okW (f w n c : Nat) : Bool := match f_X4_valueByCode f w c n with | some x => Nat.blt x 37 | none => false
theorem okI_spec {s n c : Nat} (h : okI s n c = true) : ∃ x, f_X4_imageCode s c n = some x := Option.isSome_iff_exists.mp h
theorem okW_spec {f w n c : Nat} (h : okW f w n c = true) : ∃ x, f_X4_valueByCode f w c n = some x ∧ Nat.blt x 37 = true := by
  unfold okW at h
  split at h
  · rename_i x e
    exact ⟨x, e, h⟩
  · cases h
