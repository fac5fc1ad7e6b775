/-! ===== the survey of a chart ===== -/
theorem dast_cell {hs : kHS} {i j t : Nat} {xs : List Nat} {v : Nat} (hq : hs.1[i]? = some (t, ints xs)) (hj : j < xs.length) (hl : xs.length < 2147483648) : dast nS t hs (ad i) j (.int (nI v)) = some (hs.1.set i (t, ints (xs.set j v)), hs.2) := by
  unfold dast
  rw [dcell_ad, hq, ob_s]
  dsimp only
  rw [Nat.beq_refl, cond_true, didx_s _ (by omega), ints_at, List.getElem?_eq_getElem hj, Option.map_some, ob_s, ad_pred, Nat.add_sub_cancel_left, show Nat.mod j 4294967296 = j from Nat.mod_eq_of_lt (by omega), ints_set]
theorem dald_cell {h : List kCel} {i j x t : Nat} {xs : List Nat} (hq : h[i]? = some (t, ints xs)) (hj : j < 2147483648) (hx : xs[j]? = some x) (hs : x < 4294967296) : dald nS t vI h (ad i) j = some x := by
  unfold dald
  rw [dcell_ad, hq, ob_s]
  dsimp only
  rw [Nat.beq_refl, cond_true, didx_s _ hj, ints_at, hx, Option.map_some, ob_s, vI_nI hs]
theorem getD_at {xs : List Nat} {j : Nat} (h : j < xs.length) : xs[j]? = some (xs.getD j 0) := by
  rw [List.getD_eq_getElem?_getD, List.getElem?_eq_getElem h]
  rfl
theorem set_same {α : Type} {l : List α} {i : Nat} {x : α} (h : l[i]? = some x) : l.set i x = l := by
  apply List.ext_getElem?
  intro k
  rw [List.getElem?_set]
  split
  · rename_i e
    subst e
    rw [if_pos (List.getElem?_eq_some_iff.mp h).1, h]
  · rfl
def SurvAt (h : List kCel) (es ms : List Nat) : Prop := h[2]? = some (c_X6, [.ref (nS + 3), .ref (nS + 4)]) ∧ h[3]? = some (100, ints es) ∧ h[4]? = some (103, ints ms) ∧ es.length = 720 ∧ ms.length = 720 ∧ sm es ∧ (∀ x ∈ ms, x ≤ 1)
/-- but for some cells, the heap is as it was -/
def but (X : Nat → Prop) (h h' : List kCel) : Prop := h'.length = h.length ∧ ∀ q, ¬ X q → h'[q]? = h[q]?
theorem but.rf (X : Nat → Prop) (h : List kCel) : but X h h := ⟨rfl, fun _ _ => rfl⟩
theorem but.tr {X : Nat → Prop} {h h1 h2 : List kCel} (a : but X h h1) (b : but X h1 h2) : but X h h2 := ⟨b.1.trans a.1, fun q hq => (b.2 q hq).trans (a.2 q hq)⟩
theorem but.set {X : Nat → Prop} {i : Nat} {h : List kCel} {c : kCel} (h1 : X i) : but X h (h.set i c) := ⟨List.length_set, fun q hq => List.getElem?_set_ne (fun e => hq (by rw [← e]; exact h1))⟩
theorem but.mono {X Y : Nat → Prop} {h h' : List kCel} (a : but X h h') (m : ∀ q, X q → Y q) : but Y h h' := ⟨a.1, fun q hq => a.2 q fun hx => hq (m q hx)⟩
section SV
variable {tb : List (List Int32)} {h : List kCel} {es ms : List Nat} {c : Nat × Nat}
theorem SurvAt.tag (s : SurvAt h es ms) : dtag nS c_X6 h (ad 2) = some () := dtag_ad s.1
theorem SurvAt.ends (s : SurvAt h es ms) : dgR nS c_X6 0 h (ad 2) = some (ad 3) := dgR_ad s.1 rfl
theorem SurvAt.met (s : SurvAt h es ms) : dgR nS c_X6 1 h (ad 2) = some (ad 4) := dgR_ad s.1 rfl
theorem SurvAt.setE (s : SurvAt h es ms) (j : Nat) {v : Nat} (hv : v < 4294967296) : SurvAt (h.set 3 (100, ints (es.set j v))) (es.set j v) ms := by
  obtain ⟨h1, h2, h3, h4, h5, h6, h7⟩ := s
  exact ⟨by rw [List.getElem?_set_ne (by decide)]; exact h1, by rw [List.getElem?_set_self (List.getElem?_eq_some_iff.mp h2).1], by rw [List.getElem?_set_ne (by decide)]; exact h3, by rw [List.length_set]; exact h4, h5, sm_set h6 _ hv, h7⟩
theorem SurvAt.setM (s : SurvAt h es ms) {ms' : List Nat} (hl : ms'.length = 720) (hv : ∀ x ∈ ms', x ≤ 1) : SurvAt (h.set 4 (103, ints ms')) es ms' := by
  obtain ⟨h1, h2, h3, h4, h5, h6, h7⟩ := s
  exact ⟨by rw [List.getElem?_set_ne (by decide)]; exact h1, by rw [List.getElem?_set_ne (by decide)]; exact h2, by rw [List.getElem?_set_self (List.getElem?_eq_some_iff.mp h3).1], h4, hl, h6, hv⟩
theorem SurvAt.but {X : Nat → Prop} {h' : List kCel} (s : SurvAt h es ms) (b : but X h h') (h2 : ¬ X 2) (h3 : ¬ X 3) (h4 : ¬ X 4) : SurvAt h' es ms := by
  obtain ⟨g1, g2, g3, g⟩ := s
  exact ⟨by rw [b.2 _ h2]; exact g1, by rw [b.2 _ h3]; exact g2, by rw [b.2 _ h4]; exact g3, g⟩
theorem le1_set {xs : List Nat} (h : ∀ x ∈ xs, x ≤ 1) (j : Nat) {v : Nat} (hv : v ≤ 1) : ∀ x ∈ xs.set j v, x ≤ 1 := fun x hx => by
  rcases List.mem_or_eq_of_mem_set hx with h1 | h1
  · exact h x h1
  · rw [h1]; exact hv
theorem sv_forget (ht : tb.length = nS) : ∀ (j m k : Nat) (h : List kCel) (ms : List Nat), k + j = 720 → SurvAt h es ms → (∀ q, q < k → ms[q]? = some 0) → lp_X6_forget tb (m + j + 1) (ad 2) k (h, c) = some (.inl (), (h.set 4 (103, ints (List.replicate 720 0)), c)) := by
  intro j
  induction j with
  | zero =>
    intro m k h ms hk s hz
    rw [show m + 0 + 1 = m + 1 from rfl, lp_X6_forget_s0]
    unfold lb0_X6_forget
    dsimp only
    rw [s.met, ob_s, dalen_ad ht s.2.2.1 rfl, ob_s, ints_len, s.2.2.2.2.1, wle_s (by decide) (by omega), decide_eq_true (by omega), cond_true]
    have e : ms = List.replicate 720 0 := by
      apply List.ext_getElem?
      intro q
      by_cases hq : q < 720
      · rw [hz q (by omega), List.getElem?_replicate, if_pos hq]
      · rw [List.getElem?_eq_none (by have := s.2.2.2.2.1; omega), List.getElem?_eq_none (by rw [List.length_replicate]; omega)]
    rw [← e, set_same s.2.2.1]
  | succ j ih =>
    intro m k h ms hk s hz
    rw [show m + (j + 1) + 1 = (m + j + 1) + 1 from rfl, lp_X6_forget_s0]
    unfold lb0_X6_forget
    dsimp only
    have hl := s.2.2.2.2.1
    rw [s.met, ob_s, dalen_ad ht s.2.2.1 rfl, ob_s, ints_len, hl, wle_s (by decide) (by omega), decide_eq_false (by omega), cond_false, ob_s, show dz 0 = some 0 from rfl, ob_s, dast_cell (hs := (h, c)) s.2.2.1 (by omega) (by omega), ob_s, dl_eq, wadd_s (by omega)]
    dsimp only
    rw [ih m (k + 1) _ (ms.set k 0) (by omega) (s.setM (by rw [List.length_set]; exact hl) (le1_set s.2.2.2.2.2.2 _ (by decide))) (fun q hq => by
      rw [List.getElem?_set]
      split
      · rename_i e; rw [if_pos (by omega)]
      · exact hz q (by omega))]
    rw [List.set_set]
theorem forget_ok (ht : tb.length = nS) (s : SurvAt h es ms) : f_X6_forget tb (ad 2) (h, c) = some (.inl (), (h.set 4 (103, ints (List.replicate 720 0)), c)) := by
  unfold f_X6_forget
  have e := sv_forget (c := c) ht 720 (dF - 721) 0 h ms rfl s (fun q hq => absurd hq (by omega))
  rw [show dF - 721 + 720 + 1 = dF from rfl] at e
  rw [e]
  exact dchk_same
/-- met for the first time -/
def mtn (ms : List Nat) (v : Nat) : Bool := Nat.blt v 720 && Nat.beq (ms.getD v 0) 0
theorem meet_ok (ht : tb.length = nS) (s : SurvAt h es ms) {v : Nat} (hv : v < 1000000) : f_X6_meet tb (ad 2) v (h, c) = some (.inl (bif mtn ms v then 1 else 0), (h.set 4 (103, ints (bif mtn ms v then ms.set v 1 else ms)), c)) := by
  have hl := s.2.2.2.2.1
  unfold f_X6_meet mtn
  dsimp only
  rw [wlt_s (by omega) (by decide), decide_eq_false (by omega), cond_false, s.met, ob_s, dalen_ad ht s.2.2.1 rfl, ob_s, ints_len, hl, wle_s (by decide) (by omega)]
  by_cases h1 : 720 ≤ v
  · rw [decide_eq_true h1, cond_true, show Nat.blt v 720 = false from by
      cases hb : Nat.blt v 720 with
      | false => rfl
      | true => have : v + 1 ≤ 720 := Nat.le_of_ble_eq_true hb; omega]
    rw [Bool.false_and, cond_false, cond_false, set_same s.2.2.1]
    exact dchk_same
  · rw [decide_eq_false h1, cond_false, ob_s, show Nat.blt v 720 = true from Nat.ble_eq.mpr (by omega), Bool.true_and]
    have h2 := getD_at (show v < ms.length by omega)
    have h3 := s.2.2.2.2.2.2 _ (List.mem_of_getElem? h2)
    rw [dald_cell s.2.2.1 (by omega) h2 (by omega), ob_s, weq_s (by omega) (by decide)]
    cases hb : Nat.beq (ms.getD v 0) 0 with
    | true =>
      rw [decide_eq_true (Nat.eq_of_beq_eq_true hb), cond_true, ob_s, show dz 1 = some 1 from rfl, ob_s, dast_cell (hs := (h, c)) s.2.2.1 (by omega) (by omega), ob_s, cond_true, cond_true, ob_s]
      exact dchk_same
    | false =>
      rw [decide_eq_false (fun e => by rw [e] at hb; cases hb), cond_false, show dz 0 = some 0 from rfl, ob_s, cond_false, cond_false, set_same s.2.2.1]
      exact dchk_same
/-- the survey's counts, over a list of images -/
noncomputable def cdn (G : List Nat) (j : Nat) : Nat → List Nat → Nat → Nat × List Nat := @Nat.rec (fun _ => Nat → List Nat → Nat → Nat × List Nat) (fun _ ms f => (f, ms)) (fun _ ih k ms f => bif mtn ms (G.getD k 0) then ih (Nat.succ k) (ms.set (G.getD k 0) 1) (Nat.succ f) else ih (Nat.succ k) ms f) j
theorem cdn_s (G : List Nat) (j k : Nat) (ms : List Nat) (f : Nat) : cdn G (j + 1) k ms f = bif mtn ms (G.getD k 0) then cdn G j (k + 1) (ms.set (G.getD k 0) 1) (f + 1) else cdn G j (k + 1) ms f := rfl
theorem cdn_len (G : List Nat) : ∀ (j k : Nat) (ms : List Nat) (f : Nat), ms.length = 720 → (∀ x ∈ ms, x ≤ 1) → (cdn G j k ms f).2.length = 720 ∧ (∀ x ∈ (cdn G j k ms f).2, x ≤ 1) := by
  intro j
  induction j with
  | zero => intro k ms f h1 h2; exact ⟨h1, h2⟩
  | succ j ih =>
    intro k ms f h1 h2
    rw [cdn_s]
    cases mtn ms (G.getD k 0) with
    | true => exact ih _ _ _ (by rw [List.length_set]; exact h1) (le1_set h2 _ (by decide))
    | false => exact ih _ _ _ h1 h2
/-- the ends' row begins with G -/
def Beg (es G : List Nat) : Prop := G.length ≤ 720 ∧ (∀ k, k < G.length → es.getD k 0 = G.getD k 0) ∧ ∀ k, k < G.length → G.getD k 0 < 1000000
theorem sv_distinct (ht : tb.length = nS) {G : List Nat} (hG : Beg es G) : ∀ (j m k f : Nat) (h : List kCel) (ms : List Nat), k + j = G.length → f ≤ k → SurvAt h es ms → lp_X6_countDistinct tb (m + j + 1) (ad 2) G.length f k (h, c) = some (.inl (cdn G j k ms f).1, (h.set 4 (103, ints (cdn G j k ms f).2), c)) := by
  have hg1 := hG.1
  intro j
  induction j with
  | zero =>
    intro m k f h ms hk hf s
    rw [show m + 0 + 1 = m + 1 from rfl, lp_X6_countDistinct_s0]
    unfold lb0_X6_countDistinct
    rw [wle_s (by omega) (by omega), decide_eq_true (by omega), cond_true]
    rw [show cdn G 0 k ms f = (f, ms) from rfl]
    dsimp only
    rw [set_same s.2.2.1]
  | succ j ih =>
    intro m k f h ms hk hf s
    rw [show m + (j + 1) + 1 = (m + j + 1) + 1 from rfl, lp_X6_countDistinct_s0]
    unfold lb0_X6_countDistinct
    dsimp only
    rw [wle_s (by omega) (by omega), decide_eq_false (by omega), cond_false, s.ends, ob_s, at_row ht s.2.1 (by have := s.2.2.2.1; omega) (by omega) s.2.2.2.2.2.1, ob_s, s.tag, ob_s, hG.2.1 k (by omega), meet_ok ht s (hG.2.2 k (by omega)), obW_l, cdn_s]
    cases hb : mtn ms (G.getD k 0) with
    | true =>
      rw [cond_true, cond_true, cond_true, show weq 1 0 = false from rfl, cond_false, dl_eq, dl_eq, wadd_s (by omega), wadd_s (by omega), ih m (k + 1) (f + 1) _ _ (by omega) (by omega) (s.setM (by rw [List.length_set]; exact s.2.2.2.2.1) (le1_set s.2.2.2.2.2.2 _ (by decide))), List.set_set]
    | false =>
      rw [cond_false, cond_false, cond_false, show weq 0 0 = true from rfl, cond_true, dl_eq, wadd_s (by omega), set_same s.2.2.1, ih m (k + 1) f h ms (by omega) (by omega) s]
theorem distinct_ok (ht : tb.length = nS) {G : List Nat} (hG : Beg es G) (s : SurvAt h es ms) : f_X6_countDistinct tb (ad 2) G.length (h, c) = some (.inl (cdn G G.length 0 (List.replicate 720 0) 0).1, (h.set 4 (103, ints (cdn G G.length 0 (List.replicate 720 0) 0).2), c)) := by
  have hg1 := hG.1
  have s2 : SurvAt (h.set 4 (103, ints (List.replicate 720 0))) es (List.replicate 720 0) := s.setM List.length_replicate (fun x hx => by rw [(List.mem_replicate.mp hx).2]; decide)
  unfold f_X6_countDistinct
  dsimp only
  rw [s.tag, ob_s, forget_ok ht s, obW_l]
  have e := sv_distinct (c := c) ht hG G.length (dF - G.length - 1) 0 0 _ _ (by omega) (Nat.le_refl _) s2
  rw [show dF - G.length - 1 + G.length + 1 = dF by unfold dF; omega] at e
  rw [e, List.set_set]
  exact dchk_same
noncomputable def unm (G : List Nat) (j : Nat) : Nat → Nat → Nat := @Nat.rec (fun _ => Nat → Nat → Nat) (fun _ f => f) (fun _ ih k f => bif Nat.beq (G.getD k 0) k then ih (Nat.succ k) (Nat.succ f) else ih (Nat.succ k) f) j
theorem unm_s (G : List Nat) (j k f : Nat) : unm G (j + 1) k f = bif Nat.beq (G.getD k 0) k then unm G j (k + 1) (f + 1) else unm G j (k + 1) f := rfl
theorem sv_unmoved (ht : tb.length = nS) {G : List Nat} (hG : Beg es G) (s : SurvAt h es ms) : ∀ (j m k f : Nat), k + j = G.length → f ≤ k → lp_X6_countUnmoved tb h (m + j + 1) (ad 2) G.length f k = some (unm G j k f) := by
  have hg1 := hG.1
  intro j
  induction j with
  | zero =>
    intro m k f hk hf
    rw [show m + 0 + 1 = m + 1 from rfl, lp_X6_countUnmoved_s0]
    unfold lb0_X6_countUnmoved
    rw [wle_s (by omega) (by omega), decide_eq_true (by omega), cond_true]
    rfl
  | succ j ih =>
    intro m k f hk hf
    have hk2 := hG.2.2 k (by omega)
    rw [show m + (j + 1) + 1 = (m + j + 1) + 1 from rfl, lp_X6_countUnmoved_s0]
    unfold lb0_X6_countUnmoved
    rw [wle_s (by omega) (by omega), decide_eq_false (by omega), cond_false, s.ends, ob_s, at_row ht s.2.1 (by have := s.2.2.2.1; omega) (by omega) s.2.2.2.2.2.1, ob_s, hG.2.1 k (by omega), weq_s (by omega) (by omega), unm_s]
    cases hb : Nat.beq (G.getD k 0) k with
    | true => rw [decide_eq_true (Nat.eq_of_beq_eq_true hb), Bool.not_true, cond_false, cond_true, dl_eq, dl_eq, wadd_s (by omega), wadd_s (by omega), ih m _ _ (by omega) (by omega)]
    | false => rw [decide_eq_false (fun e => by rw [e, Nat.beq_refl] at hb; cases hb), Bool.not_false, cond_true, cond_false, dl_eq, wadd_s (by omega), ih m _ _ (by omega) (by omega)]
theorem unmoved_ok (ht : tb.length = nS) {G : List Nat} (hG : Beg es G) (s : SurvAt h es ms) : f_X6_countUnmoved tb h (ad 2) G.length = some (unm G G.length 0 0) := by
  have hg1 := hG.1
  unfold f_X6_countUnmoved
  have e := sv_unmoved ht hG s G.length (dF - G.length - 1) 0 0 (by omega) (Nat.le_refl _)
  rw [show dF - G.length - 1 + G.length + 1 = dF by unfold dF; omega] at e
  exact e
/-- a round's length: none where a place is out of the list -/
noncomputable def rln (G : List Nat) (j : Nat) : Nat → Nat → List Nat → Option (Nat × List Nat) := @Nat.rec (fun _ => Nat → Nat → List Nat → Option (Nat × List Nat)) (fun l _ ms => some (l, ms)) (fun _ ih l p ms => bif Nat.blt p G.length then (bif mtn ms p then ih (Nat.succ l) (G.getD p 0) (ms.set p 1) else some (l, ms)) else none) j
theorem rln_s (G : List Nat) (j l p : Nat) (ms : List Nat) : rln G (j + 1) l p ms = bif Nat.blt p G.length then (bif mtn ms p then rln G j (l + 1) (G.getD p 0) (ms.set p 1) else some (l, ms)) else none := rfl
theorem rln_len (G : List Nat) : ∀ (j l p : Nat) (ms : List Nat) (v : Nat × List Nat), ms.length = 720 → (∀ x ∈ ms, x ≤ 1) → rln G j l p ms = some v → v.2.length = 720 ∧ (∀ x ∈ v.2, x ≤ 1) ∧ v.1 ≤ l + j := by
  intro j
  induction j with
  | zero => intro l p ms v h1 h2 h; cases h; exact ⟨h1, h2, Nat.le_refl _⟩
  | succ j ih =>
    intro l p ms v h1 h2 h
    rw [rln_s] at h
    cases hb : Nat.blt p G.length with
    | false => rw [hb] at h; cases h
    | true =>
      rw [hb, cond_true] at h
      cases hm : mtn ms p with
      | true =>
        rw [hm, cond_true] at h
        obtain ⟨a, b, c⟩ := ih _ _ _ _ (by rw [List.length_set]; exact h1) (le1_set h2 _ (by decide)) h
        exact ⟨a, b, by omega⟩
      | false => rw [hm] at h; cases h; exact ⟨h1, h2, Nat.le_add_right _ _⟩
theorem sv_round (ht : tb.length = nS) {G : List Nat} (hG : Beg es G) : ∀ (j m l p : Nat) (h : List kCel) (ms : List Nat) (v : Nat × List Nat), l + j = G.length → SurvAt h es ms → rln G j l p ms = some v → lp_X6_roundLength tb (m + j + 1) (ad 2) G.length l p (h, c) = some (.inl v.1, (h.set 4 (103, ints v.2), c)) := by
  have hg1 := hG.1
  intro j
  induction j with
  | zero =>
    intro m l p h ms v hk s hv
    cases hv
    rw [show m + 0 + 1 = m + 1 from rfl, lp_X6_roundLength_s0]
    unfold lb0_X6_roundLength
    rw [wle_s (by omega) (by omega), decide_eq_true (by omega), cond_true, set_same s.2.2.1]
  | succ j ih =>
    intro m l p h ms v hk s hv
    rw [rln_s] at hv
    cases hb : Nat.blt p G.length with
    | false => rw [hb] at hv; exact no_none hv
    | true =>
      rw [hb, cond_true] at hv
      have hp : p < G.length := Nat.le_of_ble_eq_true hb
      rw [show m + (j + 1) + 1 = (m + j + 1) + 1 from rfl, lp_X6_roundLength_s0]
      unfold lb0_X6_roundLength
      dsimp only
      rw [wle_s (by omega) (by omega), decide_eq_false (by omega), cond_false, s.tag, ob_s, meet_ok ht s (by omega), obW_l]
      cases hm : mtn ms p with
      | true =>
        rw [hm, cond_true] at hv
        have s2 := s.setM (ms' := ms.set p 1) (by rw [List.length_set]; exact s.2.2.2.2.1) (le1_set s.2.2.2.2.2.2 _ (by decide))
        rw [cond_true, cond_true, show weq 1 0 = false from rfl, cond_false, dl_eq, wadd_s (by omega)]
        dsimp only
        rw [s2.ends, ob_s, at_row ht s2.2.1 (by have := s2.2.2.2.1; omega) (by omega) s2.2.2.2.2.2.1, ob_s, hG.2.1 p hp, ih m _ _ _ _ v (by omega) s2 hv, List.set_set]
      | false =>
        rw [hm, cond_false] at hv
        cases hv
        rw [cond_false, cond_false, show weq 0 0 = true from rfl, cond_true]
theorem round_ok (ht : tb.length = nS) {G : List Nat} (hG : Beg es G) (s : SurvAt h es ms) {p : Nat} {v : Nat × List Nat} (hv : rln G G.length 0 p ms = some v) : f_X6_roundLength tb (ad 2) p G.length (h, c) = some (.inl v.1, (h.set 4 (103, ints v.2), c)) := by
  have hg1 := hG.1
  unfold f_X6_roundLength
  have e := sv_round (c := c) ht hG G.length (dF - G.length - 1) 0 p h ms v (by omega) s hv
  rw [show dF - G.length - 1 + G.length + 1 = dF by unfold dF; omega] at e
  rw [e]
  exact dchk_same
end SV
