/-! ===== the list heap: rows of ints, what Rows.at and Rows.put do to it ===== -/
theorem ob_s {α β : Type} (x : α) (f : α → Option β) : ob (some x) f = f x := rfl
theorem ob_n {α β : Type} (f : α → Option β) : ob none f = none := rfl
theorem dl_eq {α β : Type} (a : α) (f : α → β) : dl a f = f a := rfl
theorem wlt_s {a b : Nat} (ha : a < 2147483648) (hb : b < 2147483648) : wlt a b = decide (a < b) := by
  unfold wlt
  rw [Bool.eq_iff_iff, Nat.ble_eq, decide_eq_true_iff]
  show (a + 2147483648) % 4294967296 + 1 ≤ (b + 2147483648) % 4294967296 ↔ _
  omega
theorem wle_s {a b : Nat} (ha : a < 2147483648) (hb : b < 2147483648) : wle a b = decide (a ≤ b) := by
  unfold wle
  rw [Bool.eq_iff_iff, Nat.ble_eq, decide_eq_true_iff]
  show (a + 2147483648) % 4294967296 ≤ (b + 2147483648) % 4294967296 ↔ _
  omega
theorem weq_s {a b : Nat} (ha : a < 4294967296) (hb : b < 4294967296) : weq a b = decide (a = b) := by
  unfold weq
  rw [Bool.eq_iff_iff, Nat.beq_eq, decide_eq_true_iff]
  show a % 4294967296 = b % 4294967296 ↔ _
  omega
theorem wadd_s {a b : Nat} (h : a + b < 4294967296) : wadd a b = a + b := Nat.mod_eq_of_lt h
theorem wmul_s {a b : Nat} (h : a * b < 4294967296) : wmul a b = a * b := Nat.mod_eq_of_lt h
theorem wsub_s {a b : Nat} (ha : a < 4294967296) (h : b ≤ a) : wsub a b = a - b := by
  rw [wsub_def]
  omega
theorem wpos_s {a : Nat} (h : a < 2147483648) : wpos a = true := wpos_iff.mpr (by omega)
/-- the number of the reference to the cell i -/
def ad (i : Nat) : Nat := nS + i + 1
theorem ad_ne (i : Nat) : Nat.beq (ad i) 0 = false := rfl
theorem ad_pred (i : Nat) : Nat.pred (ad i) = nS + i := rfl
theorem rv_ad (i : Nat) : rv (ad i) = .ref (nS + i) := rfl
theorem ad_inj {i j : Nat} (h : ad i = ad j) : i = j := by unfold ad at h; omega
theorem kcell_ad (h : List kCel) (i : Nat) : kcell nS h (nS + i) = h[i]? := by
  unfold kcell
  rw [show Nat.ble nS (nS + i) = true from Nat.ble_eq.mpr (by omega), cond_true, Nat.add_sub_cancel_left]
theorem dcell_ad (h : List kCel) (i : Nat) : dcell nS h (ad i) = h[i]? := by
  unfold dcell
  rw [ad_ne, cond_false, ad_pred, kcell_ad]
def ints (xs : List Nat) : List Value := xs.map fun x => .int (nI x)
theorem ints_len (xs : List Nat) : (ints xs).length = xs.length := by simp [ints]
theorem ints_at (xs : List Nat) (j : Nat) : (ints xs)[j]? = (xs[j]?).map fun x => Value.int (nI x) := by simp [ints]
theorem ints_set (xs : List Nat) (j v : Nat) : (ints xs).set j (.int (nI v)) = ints (xs.set j v) := by
  unfold ints
  rw [List.map_set]
def sm (xs : List Nat) : Prop := ∀ x ∈ xs, x < 4294967296
theorem sm_set {xs : List Nat} (h : sm xs) (j : Nat) {v : Nat} (hv : v < 4294967296) : sm (xs.set j v) := fun x hx => by
  rcases List.mem_or_eq_of_mem_set hx with h1 | h1
  · exact h x h1
  · rw [h1]; exact hv
theorem vI_nI {x : Nat} (h : x < 4294967296) : vI (.int (nI x)) = some x := by
  show some (wof (nI x)) = some x
  rw [wof_nI, Nat.mod_eq_of_lt h]
theorem tb_no {tb : List (List Int32)} (ht : tb.length = nS) (i : Nat) : tb[nS + i]? = none := List.getElem?_eq_none (by omega)
theorem didx_s {τ : Type} (t : List τ) {j : Nat} (h : j < 2147483648) : didx t j = t[j]? := by
  unfold didx
  rw [wpos_s h, cond_true, show Nat.mod j 4294967296 = j from Nat.mod_eq_of_lt (by omega)]
theorem ad_8 (i : Nat) : Nat.beq (ad i) 8 = false := by
  rw [← Bool.not_eq_true, Nat.beq_eq]
  show ¬ (nS + i + 1 = 8)
  have : nS = 20 := rfl
  omega
theorem dalen_ad {tb : List (List Int32)} (ht : tb.length = nS) {h : List kCel} {i : Nat} {q : kCel} (hq : h[i]? = some q) (h1 : Nat.ble 100 q.1 = true) : dalenG tb h (ad i) = some q.2.length := by
  unfold dalenG dalen
  rw [ad_8, cond_false]
  rw [ad_ne, cond_false, ad_pred, tb_no ht]
  show ob (kcell tb.length h (nS + i)) _ = _
  rw [ht, kcell_ad, hq, ob_s, h1, cond_true]
theorem dalen_row {tb : List (List Int32)} (ht : tb.length = nS) {h : List kCel} {i : Nat} {xs : List Nat} (hq : h[i]? = some (100, ints xs)) : dalenG tb h (ad i) = some xs.length := by
  rw [dalen_ad ht hq rfl, ints_len]
theorem daldI_row {tb : List (List Int32)} (ht : tb.length = nS) {h : List kCel} {i j x : Nat} {xs : List Nat} (hq : h[i]? = some (100, ints xs)) (hj : j < 2147483648) (hx : xs[j]? = some x) (hs : x < 4294967296) : daldG tb h (ad i) j = some x := by
  unfold daldG daldI
  rw [ad_8, cond_false]
  rw [ad_ne, cond_false, ad_pred, tb_no ht]
  show ob (kcell tb.length h (nS + i)) _ = _
  rw [ht, kcell_ad, hq, ob_s]
  show ob (didx (ints xs) j) vI = _
  rw [didx_s _ hj, ints_at, hx, Option.map_some, ob_s, vI_nI hs]
theorem getD_no {xs : List Nat} {j : Nat} (h : xs.length ≤ j) : xs.getD j 0 = 0 := by
  rw [List.getD_eq_getElem?_getD, List.getElem?_eq_none h]
  rfl
/-- Rows.at -/
theorem at_row {tb : List (List Int32)} (ht : tb.length = nS) {h : List kCel} {i j : Nat} {xs : List Nat} (hq : h[i]? = some (100, ints xs)) (hl : xs.length < 2147483648) (hj : j < 2147483648) (hs : sm xs) : f_X5_at tb h (ad i) j = some (xs.getD j 0) := by
  unfold f_X5_at
  rw [ad_ne, cond_false, wlt_s hj (by decide), decide_eq_false (by omega), cond_false, dalen_row ht hq, ob_s, wle_s hl hj]
  by_cases hc : xs.length ≤ j
  · rw [decide_eq_true hc, cond_true, getD_no hc]
  · rw [decide_eq_false hc, cond_false]
    have h1 : xs[j]? = some (xs.getD j 0) := by
      rw [List.getD_eq_getElem?_getD, List.getElem?_eq_getElem (by omega)]
      rfl
    rw [daldI_row ht hq hj h1 (hs _ (List.mem_of_getElem? h1)), ob_s]
theorem at_neg {tb : List (List Int32)} {h : List kCel} {i j : Nat} (hj : wlt j 0 = true) : f_X5_at tb h (ad i) j = some 0 := by
  unfold f_X5_at
  rw [ad_ne, cond_false, hj, cond_true]
theorem dast_row {hs : kHS} {i j : Nat} {xs : List Nat} {v : Nat} (hq : hs.1[i]? = some (100, ints xs)) (hj : j < xs.length) (hl : xs.length < 2147483648) : dast nS 100 hs (ad i) j (.int (nI v)) = some (hs.1.set i (100, ints (xs.set j v)), hs.2) := by
  unfold dast
  rw [dcell_ad, hq, ob_s]
  show ob (didx (ints xs) j) _ = _
  rw [didx_s _ (by omega), ints_at, List.getElem?_eq_getElem hj, Option.map_some, ob_s, ad_pred, Nat.add_sub_cancel_left, show Nat.mod j 4294967296 = j from Nat.mod_eq_of_lt (by omega), ints_set]
theorem dchk_eq {τ : Type} {hs : kHS} {y : dR τ} (h1 : hs.2.1 ≤ y.2.2.1) (h2 : hs.2.2 ≤ y.2.2.2) : dchk hs (some y) = some y := by
  unfold dchk
  rw [ob_s, Nat.ble_eq.mpr h1, Nat.ble_eq.mpr h2]
  rfl
theorem dchk_same {τ : Type} {hs : kHS} {v : τ ⊕ Nat} {h : List kCel} : dchk hs (some (v, (h, hs.2))) = some (v, (h, hs.2)) := dchk_eq (Nat.le_refl _) (Nat.le_refl _)
/-- Rows.put -/
theorem put_row {tb : List (List Int32)} (ht : tb.length = nS) {hs : kHS} {i j v : Nat} {xs : List Nat} (hq : hs.1[i]? = some (100, ints xs)) (hj : j < xs.length) (hl : xs.length < 2147483648) : f_X5_put tb (ad i) j v hs = some (.inl (), (hs.1.set i (100, ints (xs.set j v)), hs.2)) := by
  unfold f_X5_put
  rw [ad_ne, cond_false, wlt_s (by omega) (by decide), decide_eq_false (by omega), cond_false, dalen_row ht hq, ob_s, wle_s hl (by omega), decide_eq_false (by omega), cond_false, dast_row hq hj hl, ob_s]
  exact dchk_same
/-- an array of rows -/
def refs (as : List Nat) : List Value := as.map fun a => .ref (nS + a)
theorem refs_len (as : List Nat) : (refs as).length = as.length := by simp [refs]
theorem daldA_refs {h : List kCel} {i j a : Nat} {as : List Nat} {t : Nat} (hq : h[i]? = some (t, refs as)) (h1 : Nat.ble 104 t = true) (hj : j < 2147483648) (ha : as[j]? = some a) : daldA nS h (ad i) j = some (ad a) := by
  unfold daldA
  rw [dcell_ad, hq, ob_s, h1, cond_true]
  show ob (didx (refs as) j) vR = _
  rw [didx_s _ hj, show (refs as)[j]? = some (.ref (nS + a)) by simp [refs, ha], ob_s]
  rfl
theorem at_tab {tb : List (List Int32)} (ht : tb.length = nS) {h : List kCel} {i j l a : Nat} {as xs : List Nat} (hq : h[i]? = some (104, refs as)) (hll : as.length < 2147483648) (ha : as[l]? = some a) (hr : h[a]? = some (100, ints xs)) (hl : xs.length < 2147483648) (hj : j < 2147483648) (hs : sm xs) : f_X5_at_ tb h (ad i) l j = some (xs.getD j 0) := by
  have hl2 : l < as.length := (List.getElem?_eq_some_iff.mp ha).1
  have h2 := at_row ht hr hl hj hs
  unfold f_X5_at at h2
  rw [ad_ne, cond_false] at h2
  unfold f_X5_at_
  rw [ad_ne, cond_false, wlt_s (a := l) (by omega) (by decide), decide_eq_false (by omega), cond_false, dalen_ad ht hq rfl, ob_s, refs_len, wle_s hll (by omega), decide_eq_false (by omega), cond_false, daldA_refs hq rfl (by omega) ha, ob_s, ad_ne, cond_false]
  exact h2
theorem put_tab {tb : List (List Int32)} (ht : tb.length = nS) {hs : kHS} {i j l a v : Nat} {as xs : List Nat} (hq : hs.1[i]? = some (104, refs as)) (hll : as.length < 2147483648) (ha : as[l]? = some a) (hr : hs.1[a]? = some (100, ints xs)) (hl : xs.length < 2147483648) (hj : j < xs.length) : f_X5_put_ tb (ad i) l j v hs = some (.inl (), (hs.1.set a (100, ints (xs.set j v)), hs.2)) := by
  have hl2 : l < as.length := (List.getElem?_eq_some_iff.mp ha).1
  unfold f_X5_put_
  rw [ad_ne, cond_false, wlt_s (a := l) (by omega) (by decide), decide_eq_false (by omega), cond_false, dalen_ad ht hq rfl, ob_s, refs_len, wle_s hll (by omega), decide_eq_false (by omega), cond_false, daldA_refs hq rfl (by omega) ha, ob_s, ad_ne, cond_false, wlt_s (a := j) (by omega) (by decide), decide_eq_false (by omega), cond_false, dalen_row ht hr, ob_s, wle_s hl (by omega), decide_eq_false (by omega), cond_false, dast_row hr hj hl, ob_s]
  exact dchk_same
/-! fields -/
theorem dfld_ad {h : List kCel} {i ci k : Nat} {vs : List Value} (hq : h[i]? = some (ci, vs)) : dfld nS ci k h (ad i) = vs[k]? := by
  unfold dfld
  rw [dcell_ad, hq, ob_s, Nat.beq_refl, cond_true]
theorem dtag_ad {h : List kCel} {i ci : Nat} {vs : List Value} (hq : h[i]? = some (ci, vs)) : dtag nS ci h (ad i) = some () := by
  unfold dtag
  rw [dcell_ad, hq, ob_s, Nat.beq_refl, cond_true]
theorem dgI_ad {h : List kCel} {i ci k x : Nat} {vs : List Value} (hq : h[i]? = some (ci, vs)) (hk : vs[k]? = some (.int (nI x))) (hx : x < 4294967296) : dgI nS ci k h (ad i) = some x := by
  unfold dgI
  rw [dfld_ad hq, hk, ob_s, vI_nI hx]
theorem dgR_ad {h : List kCel} {i ci k a : Nat} {vs : List Value} (hq : h[i]? = some (ci, vs)) (hk : vs[k]? = some (.ref (nS + a))) : dgR nS ci k h (ad i) = some (ad a) := by
  unfold dgR
  rw [dfld_ad hq, hk, ob_s]
  rfl
theorem dgR_null {h : List kCel} {i ci k : Nat} {vs : List Value} (hq : h[i]? = some (ci, vs)) (hk : vs[k]? = some .null) : dgR nS ci k h (ad i) = some 0 := by
  unfold dgR
  rw [dfld_ad hq, hk, ob_s]
  rfl
theorem dput_ad {hs : kHS} {i ci k : Nat} {ty : FieldType} {vs : List Value} {v : Value} (hq : hs.1[i]? = some (ci, vs)) (hk : k < vs.length) (hv : kfit ty v = true) : dput nS ci k ty hs (ad i) v = some (hs.1.set i (ci, vs.set k v), hs.2) := by
  unfold dput
  rw [dcell_ad, hq, ob_s, Nat.beq_refl, hv, show Nat.blt k vs.length = true from Nat.ble_eq.mpr hk, Bool.and_self, Bool.and_self, cond_true, ad_pred, Nat.add_sub_cancel_left]
theorem dnn_ad (i : Nat) : dnn (ad i) = some () := rfl
