/-! ===== what is read of a size and of a chart ===== -/
def Rl (h : List kCel) (p n : Nat) : Prop := RealmAt h p n (tP n) (tO n) (tI n) (tV n) (tC n) ∧ 1 ≤ n ∧ n ≤ 5
def small (xs : List Nat) : Prop := xs.length ≤ 1000 ∧ ∀ x ∈ xs, x < 1000000
theorem small.sm {xs : List Nat} (h : small xs) : sm xs := fun x hx => Nat.lt_trans (h.2 x hx) (by decide)
theorem small.get {xs : List Nat} (h : small xs) (j : Nat) : xs.getD j 0 < 1000000 := by
  by_cases hc : j < xs.length
  · rw [List.getD_eq_getElem?_getD, List.getElem?_eq_getElem hc]
    exact h.2 _ (List.getElem_mem hc)
  · rw [getD_no (by omega)]
    decide
def smallB (xs : List Nat) : Bool := Nat.ble xs.length 1000 && xs.all fun x => Nat.blt x 1000000
theorem smallB_ok {xs : List Nat} (h : smallB xs = true) : small xs := by
  unfold smallB at h
  rw [Bool.and_eq_true] at h
  exact ⟨Nat.le_of_ble_eq_true h.1, fun x hx => Nat.le_of_ble_eq_true (List.all_eq_true.mp h.2 x hx)⟩
def five (f : Nat → Bool) : Bool := (f 1 && f 2) && ((f 3 && f 4) && f 5)
theorem five_ok {f : Nat → Bool} (h : five f = true) {n : Nat} (h1 : 1 ≤ n) (h2 : n ≤ 5) : f n = true := by
  unfold five at h
  simp only [Bool.and_eq_true] at h
  obtain ⟨⟨a, b⟩, ⟨c, d⟩, e⟩ := h
  rcases (show n = 1 ∨ n = 2 ∨ n = 3 ∨ n = 4 ∨ n = 5 by omega) with rfl | rfl | rfl | rfl | rfl <;> assumption
def upto (k : Nat) (f : Nat → Bool) : Bool := (List.range k).all f
theorem upto_ok {k : Nat} {f : Nat → Bool} (h : upto k f = true) {j : Nat} (hj : j < k) : f j = true := List.all_eq_true.mp h j (List.mem_range.mpr hj)
theorem tabs_small : five (fun n => (smallB (tP n) && smallB (tO n)) && (upto 11 (fun s => smallB (tI n s)) && (upto 12 (fun s => smallB (tV n s)) && upto 12 (fun s => smallB (tC n s) && Nat.beq (tC n s).length 37)))) = true := by decide +kernel
theorem tabs_s {n : Nat} (h1 : 1 ≤ n) (h2 : n ≤ 5) : (small (tP n) ∧ small (tO n)) ∧ (∀ s, s < 11 → small (tI n s)) ∧ (∀ s, s < 12 → small (tV n s)) ∧ (∀ s, s < 12 → small (tC n s) ∧ (tC n s).length = 37) := by
  have h := five_ok tabs_small h1 h2
  simp only [Bool.and_eq_true] at h
  obtain ⟨⟨a, b⟩, c, d, e⟩ := h
  refine ⟨⟨smallB_ok a, smallB_ok b⟩, fun s hs => smallB_ok (upto_ok c hs), fun s hs => smallB_ok (upto_ok d hs), fun s hs => ?_⟩
  have h := upto_ok e hs
  rw [Bool.and_eq_true] at h
  exact ⟨smallB_ok h.1, Nat.eq_of_beq_eq_true h.2⟩
def cds (n f : Nat) : List Nat := fam f (tP n) (tO n)
def cnt (n f : Nat) : Nat := (cds n f).length
def thr (n : Nat) (σ : List Nat) (k : Nat) : Nat := σ.foldl (fun x s => (tI n s).getD x 0) k
def val (n f w k : Nat) : Nat := (tV n (f * 4 + w)).getD k 0
def nof (n f w v : Nat) : Nat := (tC n (f * 4 + w)).getD v 0
theorem cds_small {n : Nat} (h1 : 1 ≤ n) (h2 : n ≤ 5) (f : Nat) : small (cds n f) := by
  have h := tabs_s h1 h2
  unfold cds fam
  split
  · exact h.1.2
  · exact h.1.1
section RD
variable {tb : List (List Int32)} {h : List kCel} {p n : Nat}
theorem Rl.rd (r : Rl h p n) : RealmAt h p n (tP n) (tO n) (tI n) (tV n) (tC n) := r.1
theorem Rl.tag (r : Rl h p n) : dtag nS c_X4 h (ad p) = some () := r.1.tag
theorem Rl.size (r : Rl h p n) : dgI nS c_X4 0 h (ad p) = some n := r.1.size (by have := r.2.2; omega)
theorem Rl.count (ht : tb.length = nS) (r : Rl h p n) {f : Nat} (hf : f < 3) : f_X4_count tb h (ad p) f = some (cnt n f) := r.1.count ht hf
theorem Rl.codeOf (ht : tb.length = nS) (r : Rl h p n) {f k : Nat} (hf : f < 3) (hk : k < 1000000) : f_X4_codeOf tb h (ad p) f k = some ((cds n f).getD k 0) := by
  have s := cds_small r.2.1 r.2.2 f
  exact r.1.codeOf ht hf (Nat.lt_of_le_of_lt s.1 (by decide)) s.sm (by omega)
theorem Rl.valueOf (ht : tb.length = nS) (r : Rl h p n) {f w k : Nat} (hf : f < 3) (hw : w < 4) (hk : k < 1000000) : f_X4_valueOf tb h (ad p) f w k = some (val n f w k) := by
  have s := (tabs_s r.2.1 r.2.2).2.2.1 (f * 4 + w) (by omega)
  unfold f_X4_valueOf val
  rw [r.1.gV, ob_s, wmul_s (by omega), wadd_s (by omega), at_tab ht r.1.2.2.2.2.2.1 (by rw [rng_len]; omega) (rng_at (by omega)) (r.1.2.2.2.2.2.2.1 _ (by omega)) (Nat.lt_of_le_of_lt s.1 (by decide)) (by omega) s.sm, ob_s]
theorem Rl.countOf (ht : tb.length = nS) (r : Rl h p n) {f w k : Nat} (hf : f < 3) (hw : w < 4) (hk : k < 1000000) : f_X4_countOf tb h (ad p) f w k = some (nof n f w k) := by
  have s := ((tabs_s r.2.1 r.2.2).2.2.2 (f * 4 + w) (by omega)).1
  unfold f_X4_countOf nof
  rw [r.1.gC, ob_s, wmul_s (by omega), wadd_s (by omega), at_tab ht r.1.2.2.2.2.2.2.2.1 (by rw [rng_len]; omega) (rng_at (by omega)) (r.1.2.2.2.2.2.2.2.2 _ (by omega)) (Nat.lt_of_le_of_lt s.1 (by decide)) (by omega) s.sm, ob_s]
theorem Rl.img (ht : tb.length = nS) (r : Rl h p n) {s k : Nat} (hs : s < 11) (hk : k < 1000000) : f_X5_at_ tb h (ad (p + 3)) s k = some ((tI n s).getD k 0) := by
  have z := (tabs_s r.2.1 r.2.2).2.1 s hs
  exact at_tab ht r.1.2.2.2.1 (by rw [rng_len]; omega) (rng_at hs) (r.1.2.2.2.2.1 s hs) (Nat.lt_of_le_of_lt z.1 (by decide)) (by omega) z.sm
theorem img_lt (h1 : 1 ≤ n) (h2 : n ≤ 5) {s : Nat} (hs : s < 11) (k : Nat) : (tI n s).getD k 0 < 1000000 := ((tabs_s h1 h2).2.1 s hs).get k
theorem thr_lt (h1 : 1 ≤ n) (h2 : n ≤ 5) : ∀ (σ : List Nat) (k : Nat), (∀ s ∈ σ, s < 11) → k < 1000000 → thr n σ k < 1000000
  | [], k, _, hk => hk
  | s :: σ, k, hs, hk => thr_lt h1 h2 σ _ (fun x hx => hs x (List.mem_cons_of_mem _ hx)) (img_lt h1 h2 (hs s List.mem_cons_self) k)
theorem Rl.inOrder (ht : tb.length = nS) (r : Rl h p n) : ∀ (j m turn k times : Nat), turn + j = times → times < 1000000 → k < 1000000 → lp_X4_isInOrderBehind tb h (m + j + 1) (ad p) times k turn = some (bif Nat.beq (thr n (List.replicate j 10) k) 0 then 1 else 0) := by
  intro j
  induction j with
  | zero =>
    intro m turn k times ht2 htt hk
    rw [show m + 0 + 1 = m + 1 from rfl, lp_X4_isInOrderBehind_s0]
    unfold lb0_X4_isInOrderBehind
    rw [wle_s (by omega) (by omega), decide_eq_true (by omega), cond_true, weq_s (by omega) (by decide)]
    show _ = some (bif Nat.beq k 0 then 1 else 0)
    cases k <;> rfl
  | succ j ih =>
    intro m turn k times ht2 htt hk
    rw [show m + (j + 1) + 1 = (m + j + 1) + 1 from rfl, lp_X4_isInOrderBehind_s0]
    unfold lb0_X4_isInOrderBehind
    rw [wle_s (by omega) (by omega), decide_eq_false (by omega), cond_false, weq_s (by omega) (by decide)]
    by_cases h0 : k = 0
    · subst h0
      have e : ∀ i, thr n (List.replicate i 10) 0 = 0 := fun i => by
        have hz : (tI n 10).getD 0 0 = 0 := by
          have := five_ok (f := fun n => Nat.beq ((tI n 10).getD 0 0) 0) (by decide +kernel) r.2.1 r.2.2
          exact Nat.eq_of_beq_eq_true this
        induction i with
        | zero => rfl
        | succ i ih2 =>
          rw [List.replicate_succ]
          show thr n (List.replicate i 10) ((tI n 10).getD 0 0) = 0
          rw [hz]
          exact ih2
      rw [e]
      rfl
    · rw [decide_eq_false h0, cond_false, r.1.gI, ob_s, r.img ht (by decide) hk, ob_s, dl_eq, wadd_s (by omega), ih m (turn + 1) _ times (by omega) htt (img_lt r.2.1 r.2.2 (by decide) k)]
      rfl
end RD
/-! a chart -/
def pad6 (σ : List Nat) : List Nat := σ ++ List.replicate (6 - σ.length) 0
def frm (σ : List Nat) : Nat := sf (σ.getD 0 0)
def tto (σ : List Nat) : Nat := st (σ.getD (σ.length - 1) 0)
def ChartAt (h : List kCel) (i : Nat) (σ : List Nat) (cl sv d u r q : Nat) : Prop :=
  h[i]? = some (c_X0, [.int (nI (frm σ)), .int (nI (tto σ)), .ref (nS + (i + 1)), .int (nI σ.length), .int (nI cl), .int (nI sv), .int (nI d), .int (nI u), .int (nI r), .long (lN q)]) ∧
  h[i + 1]? = some (100, ints (pad6 σ)) ∧ (1 ≤ σ.length ∧ σ.length ≤ 6 ∧ (∀ s ∈ σ, s < 11)) ∧ (cl ≤ 1 ∧ sv < 7 ∧ d < 4294967296 ∧ u < 4294967296 ∧ r < 4294967296 ∧ q < 18446744073709551616)
theorem pad6_len {σ : List Nat} (h : σ.length ≤ 6) : (pad6 σ).length = 6 := by
  unfold pad6
  rw [List.length_append, List.length_replicate]
  omega
theorem pad6_at {σ : List Nat} {j : Nat} (h : j < σ.length) : (pad6 σ)[j]? = σ[j]? := List.getElem?_append_left h
theorem frm_lt (σ : List Nat) : frm σ < 3 := sf_lt _
theorem tto_lt (σ : List Nat) : tto σ < 3 := st_lt _
section CH
variable {tb : List (List Int32)} {h : List kCel} {p n i cl sv d u r q : Nat} {σ : List Nat}
theorem ChartAt.tag (c : ChartAt h i σ cl sv d u r q) : dtag nS c_X0 h (ad i) = some () := dtag_ad c.1
theorem ChartAt.from_ (c : ChartAt h i σ cl sv d u r q) : dgI nS c_X0 0 h (ad i) = some (frm σ) := dgI_ad c.1 rfl (by have := frm_lt σ; omega)
theorem ChartAt.to_ (c : ChartAt h i σ cl sv d u r q) : dgI nS c_X0 1 h (ad i) = some (tto σ) := dgI_ad c.1 rfl (by have := tto_lt σ; omega)
theorem ChartAt.steps (c : ChartAt h i σ cl sv d u r q) : dgR nS c_X0 2 h (ad i) = some (ad (i + 1)) := dgR_ad c.1 rfl
theorem ChartAt.len (c : ChartAt h i σ cl sv d u r q) : dgI nS c_X0 3 h (ad i) = some σ.length := dgI_ad c.1 rfl (by have := c.2.2.1.2.1; omega)
theorem ChartAt.claimed (c : ChartAt h i σ cl sv d u r q) : dgI nS c_X0 4 h (ad i) = some cl := dgI_ad c.1 rfl (by have := c.2.2.2.1; omega)
theorem ChartAt.surv (c : ChartAt h i σ cl sv d u r q) : dgI nS c_X0 5 h (ad i) = some sv := dgI_ad c.1 rfl (by have := c.2.2.2.2.1; omega)
theorem ChartAt.dist (c : ChartAt h i σ cl sv d u r q) : dgI nS c_X0 6 h (ad i) = some d := dgI_ad c.1 rfl c.2.2.2.2.2.1
theorem ChartAt.unm (c : ChartAt h i σ cl sv d u r q) : dgI nS c_X0 7 h (ad i) = some u := dgI_ad c.1 rfl c.2.2.2.2.2.2.1
theorem ChartAt.rnds (c : ChartAt h i σ cl sv d u r q) : dgI nS c_X0 8 h (ad i) = some r := dgI_ad c.1 rfl c.2.2.2.2.2.2.2.1
theorem dgL_ad {h : List kCel} {i ci k x : Nat} {vs : List Value} (hq : h[i]? = some (ci, vs)) (hk : vs[k]? = some (.long (lN x))) (hx : x < 18446744073709551616) : dgL nS ci k h (ad i) = some x := by
  unfold dgL
  rw [dfld_ad hq, hk, ob_s]
  show some (lN x).toBitVec.toNat = _
  rw [lN_bw, Nat.mod_eq_of_lt hx]
theorem ChartAt.per (c : ChartAt h i σ cl sv d u r q) : dgL nS c_X0 9 h (ad i) = some q := dgL_ad c.1 rfl c.2.2.2.2.2.2.2.2
theorem ChartAt.isMove (c : ChartAt h i σ cl sv d u r q) : f_X0_isMove h (ad i) = some (bif Nat.beq (frm σ) (tto σ) then 1 else 0) := by
  unfold f_X0_isMove
  rw [c.from_, ob_s, c.to_, ob_s]
  have h1 := frm_lt σ
  have h2 := tto_lt σ
  rw [weq_s (by omega) (by omega)]
  cases hc : Nat.beq (frm σ) (tto σ) with
  | true => rw [decide_eq_true (Nat.eq_of_beq_eq_true hc)]; rfl
  | false => rw [decide_eq_false (fun e => by rw [e, Nat.beq_refl] at hc; cases hc)]; rfl
theorem ChartAt.stepAt (ht : tb.length = nS) (c : ChartAt h i σ cl sv d u r q) {j : Nat} (hj : j < σ.length) : f_X0_stepAt tb h (ad i) j = some (σ.getD j 0) := by
  have h1 := c.2.2.1.2.1
  have e : (pad6 σ)[j]? = some (σ.getD j 0) := by
    rw [pad6_at hj, List.getD_eq_getElem?_getD, List.getElem?_eq_getElem hj]
    rfl
  have e2 : σ.getD j 0 < 11 := by
    rw [List.getD_eq_getElem?_getD, List.getElem?_eq_getElem hj]
    exact c.2.2.1.2.2 _ (List.getElem_mem hj)
  unfold f_X0_stepAt
  rw [wlt_s (by omega) (by decide), decide_eq_false (by omega), cond_false, c.steps, ob_s, dalen_row ht c.2.1, ob_s, pad6_len h1, wle_s (by decide) (by omega), decide_eq_false (by omega), cond_false, ob_s, daldI_row ht c.2.1 (by omega) e (by omega), ob_s]
theorem thr_step {j : Nat} (hj : j < σ.length) (k : Nat) : thr n (σ.drop j) k = thr n (σ.drop (j + 1)) ((tI n (σ.getD j 0)).getD k 0) := by
  rw [List.drop_eq_getElem_cons hj]
  unfold thr
  rw [List.foldl_cons, List.getD_eq_getElem?_getD (l := σ), List.getElem?_eq_getElem hj]
  rfl
theorem ChartAt.through (ht : tb.length = nS) (rl : Rl h p n) (c : ChartAt h i σ cl sv d u r q) : ∀ (j m k turn : Nat), turn + j = σ.length → k < 1000000 → lp_X4_through tb h (m + j + 1) (ad p) (ad i) k turn = some (thr n (σ.drop turn) k) := by
  have h6 := c.2.2.1.2.1
  intro j
  induction j with
  | zero =>
    intro m k turn hj hk
    rw [show m + 0 + 1 = m + 1 from rfl, lp_X4_through_s0]
    unfold lb0_X4_through
    rw [c.len, ob_s, wle_s (by omega) (by omega), decide_eq_true (by omega), cond_true, List.drop_eq_nil_of_le (by omega)]
    rfl
  | succ j ih =>
    intro m k turn hj hk
    have e2 : σ.getD turn 0 < 11 := by
      rw [List.getD_eq_getElem?_getD, List.getElem?_eq_getElem (show turn < σ.length by omega)]
      exact c.2.2.1.2.2 _ (List.getElem_mem _)
    rw [show m + (j + 1) + 1 = (m + j + 1) + 1 from rfl, lp_X4_through_s0]
    unfold lb0_X4_through
    rw [c.len, ob_s, wle_s (by omega) (by omega), decide_eq_false (by omega), cond_false, rl.1.gI, ob_s, c.tag, ob_s, c.stepAt ht (by omega), ob_s, rl.img ht e2 hk, ob_s, dl_eq, wadd_s (by omega), ih m _ (turn + 1) (by omega) (img_lt rl.2.1 rl.2.2 e2 k), ← thr_step (by omega)]
theorem ChartAt.thru (ht : tb.length = nS) (rl : Rl h p n) (c : ChartAt h i σ cl sv d u r q) {k : Nat} (hk : k < 1000000) : f_X4_through tb h (ad p) (ad i) k = some (thr n σ k) := by
  have h6 := c.2.2.1.2.1
  unfold f_X4_through
  have e := c.through ht rl σ.length (dF - σ.length - 1) k 0 (by omega) hk
  rw [show dF - σ.length - 1 + σ.length + 1 = dF by unfold dF; omega] at e
  exact e
end CH
