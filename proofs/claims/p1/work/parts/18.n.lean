/-! ===== no method but the law itself reads the script ===== -/
def tbx (xs : List Int32) : List (List Int32) := kT7 ++ [xs, [], [], [], [], [], [], [], [], [], [], [], []]
def tb0 : List (List Int32) := tbx []
theorem tbx_at (xs : List Int32) {k : Nat} (h : k ≠ 7) : (tbx xs)[k]? = tb0[k]? := by
  rcases (show k = 0 ∨ k = 1 ∨ k = 2 ∨ k = 3 ∨ k = 4 ∨ k = 5 ∨ k = 6 ∨ 8 ≤ k by omega) with rfl | rfl | rfl | rfl | rfl | rfl | rfl | h8
  iterate 7 rfl
  obtain ⟨j, rfl⟩ : ∃ j, k = 8 + j := ⟨k - 8, by omega⟩
  have e : ∀ ys : List Int32, (tbx ys)[8 + j]? = ([[], [], [], [], [], [], [], [], [], [], [], []] : List (List Int32))[j]? := fun ys => by
    show (([[0, 0, 1, 1, 0, 0, 1, 2, 2, 2, 2], [1, 1, 0, 1, 0, 0, 2, 1, 2, 2, 2], [1, 1, 2, 5, 14, 42, 132], [1, 1, 2, 6, 24, 120, 720], [1, 10, 100, 1000, 10000, 100000, 1000000], [0, 0, 1, 1, 0, 0, 1, 2, 2, 2, 2], [1, 1, 0, 1, 0, 0, 2, 1, 2, 2, 2], ys] : List (List Int32)) ++ [[], [], [], [], [], [], [], [], [], [], [], []])[8 + j]? = _
    rw [List.getElem?_append_right (by show 8 ≤ 8 + j; omega)]
    congr 1
    show 8 + j - 8 = j
    omega
  rw [show tb0 = tbx [] from rfl, e, e]
theorem dG_x (xs : List Int32) : daldG (tbx xs) = daldG tb0 := by
  funext h a i
  unfold daldG
  cases hc : Nat.beq a 8 with
  | true => rfl
  | false =>
    have hn : Nat.pred a ≠ 7 := fun e => by
      cases a with
      | zero => cases e
      | succ a =>
        rw [show a = 7 from e] at hc
        cases hc
    have hl : (tbx xs)[Nat.pred a]? = tb0[Nat.pred a]? := tbx_at xs hn
    simp only [cond_false]
    unfold daldI
    rw [hl]
    rfl
theorem lG_x (xs : List Int32) : dalenG (tbx xs) = dalenG tb0 := by
  funext h a
  unfold dalenG
  cases hc : Nat.beq a 8 with
  | true => rfl
  | false =>
    have hn : Nat.pred a ≠ 7 := fun e => by
      cases a with
      | zero => cases e
      | succ a =>
        rw [show a = 7 from e] at hc
        cases hc
    have hl : (tbx xs)[Nat.pred a]? = tb0[Nat.pred a]? := tbx_at xs hn
    simp only [cond_false]
    unfold dalen
    rw [hl]
    rfl
theorem N_X5_at (xs : List Int32) : f_X5_at (tbx xs) = f_X5_at tb0 := by
  unfold f_X5_at
  simp only [dG_x, lG_x]
theorem N_X5_at_ (xs : List Int32) : f_X5_at_ (tbx xs) = f_X5_at_ tb0 := by
  unfold f_X5_at_
  simp only [dG_x, lG_x]
theorem N_X5_put (xs : List Int32) : f_X5_put (tbx xs) = f_X5_put tb0 := by
  unfold f_X5_put
  simp only [dG_x, lG_x]
theorem N_X5_put_ (xs : List Int32) : f_X5_put_ (tbx xs) = f_X5_put_ tb0 := by
  unfold f_X5_put_
  simp only [dG_x, lG_x]
theorem N_lb0_X4_listPaths (xs : List Int32) : lb0_X4_listPaths (tbx xs) = lb0_X4_listPaths tb0 := by
  unfold lb0_X4_listPaths
  simp only [dG_x, lG_x, N_X5_put]
theorem N_lp_X4_listPaths (xs : List Int32) : lp_X4_listPaths (tbx xs) = lp_X4_listPaths tb0 := by
  unfold lp_X4_listPaths
  simp only [dG_x, lG_x, N_X5_put, N_lb0_X4_listPaths]
theorem N_X4_listPaths (xs : List Int32) : f_X4_listPaths (tbx xs) = f_X4_listPaths tb0 := by
  unfold f_X4_listPaths
  simp only [dG_x, lG_x, N_X5_put, N_lb0_X4_listPaths, N_lp_X4_listPaths]
theorem N_lb0_X4_listOrders (xs : List Int32) : lb0_X4_listOrders (tbx xs) = lb0_X4_listOrders tb0 := by
  unfold lb0_X4_listOrders
  simp only [dG_x, lG_x, N_X5_put]
theorem N_lp_X4_listOrders (xs : List Int32) : lp_X4_listOrders (tbx xs) = lp_X4_listOrders tb0 := by
  unfold lp_X4_listOrders
  simp only [dG_x, lG_x, N_X5_put, N_lb0_X4_listOrders]
theorem N_X4_listOrders (xs : List Int32) : f_X4_listOrders (tbx xs) = f_X4_listOrders tb0 := by
  unfold f_X4_listOrders
  simp only [dG_x, lG_x, N_X5_put, N_lb0_X4_listOrders, N_lp_X4_listOrders]
theorem N_X4_count (xs : List Int32) : f_X4_count (tbx xs) = f_X4_count tb0 := by
  unfold f_X4_count
  simp only [dG_x, lG_x]
theorem N_X4_codeOf (xs : List Int32) : f_X4_codeOf (tbx xs) = f_X4_codeOf tb0 := by
  unfold f_X4_codeOf
  simp only [dG_x, lG_x, N_X5_at]
theorem N_lb0_X4_rankOf (xs : List Int32) : lb0_X4_rankOf (tbx xs) = lb0_X4_rankOf tb0 := by
  unfold lb0_X4_rankOf
  simp only [dG_x, lG_x, N_X5_at]
theorem N_lp_X4_rankOf (xs : List Int32) : lp_X4_rankOf (tbx xs) = lp_X4_rankOf tb0 := by
  unfold lp_X4_rankOf
  simp only [dG_x, lG_x, N_X5_at, N_lb0_X4_rankOf]
theorem N_X4_rankOf (xs : List Int32) : f_X4_rankOf (tbx xs) = f_X4_rankOf tb0 := by
  unfold f_X4_rankOf
  simp only [dG_x, lG_x, N_X5_at, N_lb0_X4_rankOf, N_lp_X4_rankOf]
theorem N_lb0_X4_listImages (xs : List Int32) : lb0_X4_listImages (tbx xs) = lb0_X4_listImages tb0 := by
  unfold lb0_X4_listImages
  simp only [dG_x, lG_x, N_X5_at, N_X5_put_, N_X4_count, N_X4_codeOf, N_X4_rankOf]
theorem N_lp_X4_listImages (xs : List Int32) : lp_X4_listImages (tbx xs) = lp_X4_listImages tb0 := by
  unfold lp_X4_listImages
  simp only [dG_x, lG_x, N_X5_at, N_X5_put_, N_X4_count, N_X4_codeOf, N_X4_rankOf, N_lb0_X4_listImages]
theorem N_X4_listImages (xs : List Int32) : f_X4_listImages (tbx xs) = f_X4_listImages tb0 := by
  unfold f_X4_listImages
  simp only [dG_x, lG_x, N_X5_at, N_X5_put_, N_X4_count, N_X4_codeOf, N_X4_rankOf, N_lb0_X4_listImages, N_lp_X4_listImages]
theorem N_lb0_X4_listValues (xs : List Int32) : lb0_X4_listValues (tbx xs) = lb0_X4_listValues tb0 := by
  unfold lb0_X4_listValues
  simp only [dG_x, lG_x, N_X5_at_, N_X5_put_, N_X4_count, N_X4_codeOf]
theorem N_lp_X4_listValues (xs : List Int32) : lp_X4_listValues (tbx xs) = lp_X4_listValues tb0 := by
  unfold lp_X4_listValues
  simp only [dG_x, lG_x, N_X5_at_, N_X5_put_, N_X4_count, N_X4_codeOf, N_lb0_X4_listValues]
theorem N_X4_listValues (xs : List Int32) : f_X4_listValues (tbx xs) = f_X4_listValues tb0 := by
  unfold f_X4_listValues
  simp only [dG_x, lG_x, N_X5_at_, N_X5_put_, N_X4_count, N_X4_codeOf, N_lb0_X4_listValues, N_lp_X4_listValues]
theorem N_lb0_X4_of (xs : List Int32) : lb0_X4_of (tbx xs) = lb0_X4_of tb0 := by
  unfold lb0_X4_of
  simp only [dG_x, lG_x, N_X4_listPaths, N_X4_listOrders, N_X4_listImages, N_X4_listValues]
theorem N_lb1_X4_of (xs : List Int32) : lb1_X4_of (tbx xs) = lb1_X4_of tb0 := by
  unfold lb1_X4_of
  simp only [dG_x, lG_x, N_X4_listPaths, N_X4_listOrders, N_X4_listImages, N_X4_listValues, N_lb0_X4_of]
theorem N_lb2_X4_of (xs : List Int32) : lb2_X4_of (tbx xs) = lb2_X4_of tb0 := by
  unfold lb2_X4_of
  simp only [dG_x, lG_x, N_X4_listPaths, N_X4_listOrders, N_X4_listImages, N_X4_listValues, N_lb0_X4_of, N_lb1_X4_of]
theorem N_lt_X4_of (xs : List Int32) : lt_X4_of (tbx xs) = lt_X4_of tb0 := by
  unfold lt_X4_of
  simp only [dG_x, lG_x, N_X4_listPaths, N_X4_listOrders, N_X4_listImages, N_X4_listValues, N_lb0_X4_of, N_lb1_X4_of, N_lb2_X4_of]
theorem N_lp_X4_of (xs : List Int32) : lp_X4_of (tbx xs) = lp_X4_of tb0 := by
  unfold lp_X4_of
  simp only [dG_x, lG_x, N_X4_listPaths, N_X4_listOrders, N_X4_listImages, N_X4_listValues, N_lb0_X4_of, N_lb1_X4_of, N_lb2_X4_of, N_lt_X4_of]
theorem N_X4_of (xs : List Int32) : f_X4_of (tbx xs) = f_X4_of tb0 := by
  unfold f_X4_of
  simp only [dG_x, lG_x, N_X4_listPaths, N_X4_listOrders, N_X4_listImages, N_X4_listValues, N_lb0_X4_of, N_lb1_X4_of, N_lb2_X4_of, N_lt_X4_of, N_lp_X4_of]
theorem N_X0_stepAt (xs : List Int32) : f_X0_stepAt (tbx xs) = f_X0_stepAt tb0 := by
  unfold f_X0_stepAt
  simp only [dG_x, lG_x]
theorem N_lb0_X4_through (xs : List Int32) : lb0_X4_through (tbx xs) = lb0_X4_through tb0 := by
  unfold lb0_X4_through
  simp only [dG_x, lG_x, N_X5_at_, N_X0_stepAt]
theorem N_lp_X4_through (xs : List Int32) : lp_X4_through (tbx xs) = lp_X4_through tb0 := by
  unfold lp_X4_through
  simp only [dG_x, lG_x, N_X5_at_, N_X0_stepAt, N_lb0_X4_through]
theorem N_X4_through (xs : List Int32) : f_X4_through (tbx xs) = f_X4_through tb0 := by
  unfold f_X4_through
  simp only [dG_x, lG_x, N_X5_at_, N_X0_stepAt, N_lb0_X4_through, N_lp_X4_through]
theorem N_X4_valueOf (xs : List Int32) : f_X4_valueOf (tbx xs) = f_X4_valueOf tb0 := by
  unfold f_X4_valueOf
  simp only [dG_x, lG_x, N_X5_at_]
theorem N_X4_countOf (xs : List Int32) : f_X4_countOf (tbx xs) = f_X4_countOf tb0 := by
  unfold f_X4_countOf
  simp only [dG_x, lG_x, N_X5_at_]
theorem N_lb0_X4_isInOrderBehind (xs : List Int32) : lb0_X4_isInOrderBehind (tbx xs) = lb0_X4_isInOrderBehind tb0 := by
  unfold lb0_X4_isInOrderBehind
  simp only [dG_x, lG_x, N_X5_at_]
theorem N_lp_X4_isInOrderBehind (xs : List Int32) : lp_X4_isInOrderBehind (tbx xs) = lp_X4_isInOrderBehind tb0 := by
  unfold lp_X4_isInOrderBehind
  simp only [dG_x, lG_x, N_X5_at_, N_lb0_X4_isInOrderBehind]
theorem N_X4_isInOrderBehind (xs : List Int32) : f_X4_isInOrderBehind (tbx xs) = f_X4_isInOrderBehind tb0 := by
  unfold f_X4_isInOrderBehind
  simp only [dG_x, lG_x, N_X5_at_, N_lb0_X4_isInOrderBehind, N_lp_X4_isInOrderBehind]
theorem N_X0_init (xs : List Int32) : f_X0_init (tbx xs) = f_X0_init tb0 := by
  unfold f_X0_init
  simp only [dG_x, lG_x, N_X5_at]
theorem N_X0_append (xs : List Int32) : f_X0_append (tbx xs) = f_X0_append tb0 := by
  unfold f_X0_append
  simp only [dG_x, lG_x, N_X5_at, N_X5_put]
theorem N_lb0_X6_forget (xs : List Int32) : lb0_X6_forget (tbx xs) = lb0_X6_forget tb0 := by
  unfold lb0_X6_forget
  simp only [dG_x, lG_x]
theorem N_lp_X6_forget (xs : List Int32) : lp_X6_forget (tbx xs) = lp_X6_forget tb0 := by
  unfold lp_X6_forget
  simp only [dG_x, lG_x, N_lb0_X6_forget]
theorem N_X6_forget (xs : List Int32) : f_X6_forget (tbx xs) = f_X6_forget tb0 := by
  unfold f_X6_forget
  simp only [dG_x, lG_x, N_lb0_X6_forget, N_lp_X6_forget]
theorem N_X6_meet (xs : List Int32) : f_X6_meet (tbx xs) = f_X6_meet tb0 := by
  unfold f_X6_meet
  simp only [dG_x, lG_x]
theorem N_lb0_X6_countDistinct (xs : List Int32) : lb0_X6_countDistinct (tbx xs) = lb0_X6_countDistinct tb0 := by
  unfold lb0_X6_countDistinct
  simp only [dG_x, lG_x, N_X5_at, N_X6_forget, N_X6_meet]
theorem N_lp_X6_countDistinct (xs : List Int32) : lp_X6_countDistinct (tbx xs) = lp_X6_countDistinct tb0 := by
  unfold lp_X6_countDistinct
  simp only [dG_x, lG_x, N_X5_at, N_X6_forget, N_X6_meet, N_lb0_X6_countDistinct]
theorem N_X6_countDistinct (xs : List Int32) : f_X6_countDistinct (tbx xs) = f_X6_countDistinct tb0 := by
  unfold f_X6_countDistinct
  simp only [dG_x, lG_x, N_X5_at, N_X6_forget, N_X6_meet, N_lb0_X6_countDistinct, N_lp_X6_countDistinct]
theorem N_lb0_X6_countUnmoved (xs : List Int32) : lb0_X6_countUnmoved (tbx xs) = lb0_X6_countUnmoved tb0 := by
  unfold lb0_X6_countUnmoved
  simp only [dG_x, lG_x, N_X5_at]
theorem N_lp_X6_countUnmoved (xs : List Int32) : lp_X6_countUnmoved (tbx xs) = lp_X6_countUnmoved tb0 := by
  unfold lp_X6_countUnmoved
  simp only [dG_x, lG_x, N_X5_at, N_lb0_X6_countUnmoved]
theorem N_X6_countUnmoved (xs : List Int32) : f_X6_countUnmoved (tbx xs) = f_X6_countUnmoved tb0 := by
  unfold f_X6_countUnmoved
  simp only [dG_x, lG_x, N_X5_at, N_lb0_X6_countUnmoved, N_lp_X6_countUnmoved]
theorem N_lb0_X6_roundLength (xs : List Int32) : lb0_X6_roundLength (tbx xs) = lb0_X6_roundLength tb0 := by
  unfold lb0_X6_roundLength
  simp only [dG_x, lG_x, N_X5_at, N_X6_meet]
theorem N_lp_X6_roundLength (xs : List Int32) : lp_X6_roundLength (tbx xs) = lp_X6_roundLength tb0 := by
  unfold lp_X6_roundLength
  simp only [dG_x, lG_x, N_X5_at, N_X6_meet, N_lb0_X6_roundLength]
theorem N_X6_roundLength (xs : List Int32) : f_X6_roundLength (tbx xs) = f_X6_roundLength tb0 := by
  unfold f_X6_roundLength
  simp only [dG_x, lG_x, N_X5_at, N_X6_meet, N_lb0_X6_roundLength, N_lp_X6_roundLength]
theorem N_lb0_X6_followRounds (xs : List Int32) : lb0_X6_followRounds (tbx xs) = lb0_X6_followRounds tb0 := by
  unfold lb0_X6_followRounds
  simp only [dG_x, lG_x, N_X6_roundLength, N_X6_forget]
theorem N_lp_X6_followRounds (xs : List Int32) : lp_X6_followRounds (tbx xs) = lp_X6_followRounds tb0 := by
  unfold lp_X6_followRounds
  simp only [dG_x, lG_x, N_X6_roundLength, N_X6_forget, N_lb0_X6_followRounds]
theorem N_X6_followRounds (xs : List Int32) : f_X6_followRounds (tbx xs) = f_X6_followRounds tb0 := by
  unfold f_X6_followRounds
  simp only [dG_x, lG_x, N_X6_roundLength, N_X6_forget, N_lb0_X6_followRounds, N_lp_X6_followRounds]
theorem N_lb0_X6_take (xs : List Int32) : lb0_X6_take (tbx xs) = lb0_X6_take tb0 := by
  unfold lb0_X6_take
  simp only [dG_x, lG_x, N_X5_put, N_X4_count, N_X4_through, N_X6_countDistinct, N_X6_countUnmoved, N_X6_followRounds]
theorem N_lp_X6_take (xs : List Int32) : lp_X6_take (tbx xs) = lp_X6_take tb0 := by
  unfold lp_X6_take
  simp only [dG_x, lG_x, N_X5_put, N_X4_count, N_X4_through, N_X6_countDistinct, N_X6_countUnmoved, N_X6_followRounds, N_lb0_X6_take]
theorem N_X6_take (xs : List Int32) : f_X6_take (tbx xs) = f_X6_take tb0 := by
  unfold f_X6_take
  simp only [dG_x, lG_x, N_X5_put, N_X4_count, N_X4_through, N_X6_countDistinct, N_X6_countUnmoved, N_X6_followRounds, N_lb0_X6_take, N_lp_X6_take]
theorem N_X9_init (xs : List Int32) : f_X9_init (tbx xs) = f_X9_init tb0 := by
  unfold f_X9_init
  simp only [dG_x, lG_x, N_X4_of]
theorem N_X9_size (xs : List Int32) : f_X9_size (tbx xs) = f_X9_size tb0 := by
  unfold f_X9_size
  simp only [dG_x, lG_x, N_X4_of]
theorem N_X9_map (xs : List Int32) : f_X9_map (tbx xs) = f_X9_map tb0 := by
  unfold f_X9_map
  simp only [dG_x, lG_x, N_X0_init]
theorem N_X9_chartAt (xs : List Int32) : f_X9_chartAt (tbx xs) = f_X9_chartAt tb0 := by
  unfold f_X9_chartAt
  simp only [dG_x, lG_x]
theorem N_X9_then (xs : List Int32) : f_X9_then (tbx xs) = f_X9_then tb0 := by
  unfold f_X9_then
  simp only [dG_x, lG_x, N_X5_at, N_X0_append, N_X9_chartAt]
theorem N_X9_walker (xs : List Int32) : f_X9_walker (tbx xs) = f_X9_walker tb0 := by
  unfold f_X9_walker
  simp only [dG_x, lG_x, N_X4_rankOf]
theorem N_lb0_X9_firstAgainst (xs : List Int32) : lb0_X9_firstAgainst (tbx xs) = lb0_X9_firstAgainst tb0 := by
  unfold lb0_X9_firstAgainst
  simp only [dG_x, lG_x, N_X4_count, N_X4_through, N_X4_valueOf]
theorem N_lp_X9_firstAgainst (xs : List Int32) : lp_X9_firstAgainst (tbx xs) = lp_X9_firstAgainst tb0 := by
  unfold lp_X9_firstAgainst
  simp only [dG_x, lG_x, N_X4_count, N_X4_through, N_X4_valueOf, N_lb0_X9_firstAgainst]
theorem N_X9_firstAgainst (xs : List Int32) : f_X9_firstAgainst (tbx xs) = f_X9_firstAgainst tb0 := by
  unfold f_X9_firstAgainst
  simp only [dG_x, lG_x, N_X4_count, N_X4_through, N_X4_valueOf, N_lb0_X9_firstAgainst, N_lp_X9_firstAgainst]
theorem N_X9_tryClaim (xs : List Int32) : f_X9_tryClaim (tbx xs) = f_X9_tryClaim tb0 := by
  unfold f_X9_tryClaim
  simp only [dG_x, lG_x, N_X9_firstAgainst]
theorem N_X9_claim (xs : List Int32) : f_X9_claim (tbx xs) = f_X9_claim tb0 := by
  unfold f_X9_claim
  simp only [dG_x, lG_x, N_X9_chartAt, N_X9_tryClaim]
theorem N_X9_walkerAt (xs : List Int32) : f_X9_walkerAt (tbx xs) = f_X9_walkerAt tb0 := by
  unfold f_X9_walkerAt
  simp only [dG_x, lG_x]
theorem N_lb0_X9_send (xs : List Int32) : lb0_X9_send (tbx xs) = lb0_X9_send tb0 := by
  unfold lb0_X9_send
  simp only [dG_x, lG_x, N_X4_codeOf, N_X4_through, N_X9_chartAt, N_X9_walkerAt]
theorem N_lp_X9_send (xs : List Int32) : lp_X9_send (tbx xs) = lp_X9_send tb0 := by
  unfold lp_X9_send
  simp only [dG_x, lG_x, N_X4_codeOf, N_X4_through, N_X9_chartAt, N_X9_walkerAt, N_lb0_X9_send]
theorem N_X9_send (xs : List Int32) : f_X9_send (tbx xs) = f_X9_send tb0 := by
  unfold f_X9_send
  simp only [dG_x, lG_x, N_X4_codeOf, N_X4_through, N_X9_chartAt, N_X9_walkerAt, N_lb0_X9_send, N_lp_X9_send]
theorem N_X9_claimAt (xs : List Int32) : f_X9_claimAt (tbx xs) = f_X9_claimAt tb0 := by
  unfold f_X9_claimAt
  simp only [dG_x, lG_x]
theorem N_X9_trial (xs : List Int32) : f_X9_trial (tbx xs) = f_X9_trial tb0 := by
  unfold f_X9_trial
  simp only [dG_x, lG_x, N_X9_chartAt, N_X9_claimAt, N_X9_tryClaim]
theorem N_X9_objects (xs : List Int32) : f_X9_objects (tbx xs) = f_X9_objects tb0 := by
  unfold f_X9_objects
  simp only [dG_x, lG_x, N_X4_count]
theorem N_X9_needRank (xs : List Int32) : f_X9_needRank (tbx xs) = f_X9_needRank tb0 := by
  unfold f_X9_needRank
  simp only [dG_x, lG_x, N_X4_count]
theorem N_X9_unrank (xs : List Int32) : f_X9_unrank (tbx xs) = f_X9_unrank tb0 := by
  unfold f_X9_unrank
  simp only [dG_x, lG_x, N_X4_codeOf, N_X9_needRank]
theorem N_X9_rank (xs : List Int32) : f_X9_rank (tbx xs) = f_X9_rank tb0 := by
  unfold f_X9_rank
  simp only [dG_x, lG_x, N_X4_rankOf]
theorem N_X9_statistic (xs : List Int32) : f_X9_statistic (tbx xs) = f_X9_statistic tb0 := by
  unfold f_X9_statistic
  simp only [dG_x, lG_x, N_X4_valueOf, N_X9_needRank]
theorem N_X9_spread (xs : List Int32) : f_X9_spread (tbx xs) = f_X9_spread tb0 := by
  unfold f_X9_spread
  simp only [dG_x, lG_x, N_X4_countOf]
theorem N_lb0_X9_signs (xs : List Int32) : lb0_X9_signs (tbx xs) = lb0_X9_signs tb0 := by
  unfold lb0_X9_signs
  simp only [dG_x, lG_x, N_X4_countOf]
theorem N_lp_X9_signs (xs : List Int32) : lp_X9_signs (tbx xs) = lp_X9_signs tb0 := by
  unfold lp_X9_signs
  simp only [dG_x, lG_x, N_X4_countOf, N_lb0_X9_signs]
theorem N_X9_signs (xs : List Int32) : f_X9_signs (tbx xs) = f_X9_signs tb0 := by
  unfold f_X9_signs
  simp only [dG_x, lG_x, N_X4_countOf, N_lb0_X9_signs, N_lp_X9_signs]
theorem N_lb0_X9_alike (xs : List Int32) : lb0_X9_alike (tbx xs) = lb0_X9_alike tb0 := by
  unfold lb0_X9_alike
  simp only [dG_x, lG_x, N_X4_countOf]
theorem N_lp_X9_alike (xs : List Int32) : lp_X9_alike (tbx xs) = lp_X9_alike tb0 := by
  unfold lp_X9_alike
  simp only [dG_x, lG_x, N_X4_countOf, N_lb0_X9_alike]
theorem N_X9_alike (xs : List Int32) : f_X9_alike (tbx xs) = f_X9_alike tb0 := by
  unfold f_X9_alike
  simp only [dG_x, lG_x, N_X4_countOf, N_lb0_X9_alike, N_lp_X9_alike]
theorem N_X9_contains (xs : List Int32) : f_X9_contains (tbx xs) = f_X9_contains tb0 := by
  unfold f_X9_contains
  simp only [dG_x, lG_x, N_X4_codeOf, N_X9_needRank]
theorem N_lb0_X9_sorted (xs : List Int32) : lb0_X9_sorted (tbx xs) = lb0_X9_sorted tb0 := by
  unfold lb0_X9_sorted
  simp only [dG_x, lG_x, N_X4_count, N_X4_isInOrderBehind]
theorem N_lp_X9_sorted (xs : List Int32) : lp_X9_sorted (tbx xs) = lp_X9_sorted tb0 := by
  unfold lp_X9_sorted
  simp only [dG_x, lG_x, N_X4_count, N_X4_isInOrderBehind, N_lb0_X9_sorted]
theorem N_X9_sorted (xs : List Int32) : f_X9_sorted (tbx xs) = f_X9_sorted tb0 := by
  unfold f_X9_sorted
  simp only [dG_x, lG_x, N_X4_count, N_X4_isInOrderBehind, N_lb0_X9_sorted, N_lp_X9_sorted]
theorem N_X9_ofMap (xs : List Int32) : f_X9_ofMap (tbx xs) = f_X9_ofMap tb0 := by
  unfold f_X9_ofMap
  simp only [dG_x, lG_x, N_X4_count, N_X6_take, N_X9_chartAt]
theorem N_X9_image (xs : List Int32) : f_X9_image (tbx xs) = f_X9_image tb0 := by
  unfold f_X9_image
  simp only [dG_x, lG_x, N_X4_through, N_X9_needRank, N_X9_chartAt]
theorem N_lb0_X9_source (xs : List Int32) : lb0_X9_source (tbx xs) = lb0_X9_source tb0 := by
  unfold lb0_X9_source
  simp only [dG_x, lG_x, N_X4_count, N_X4_through, N_X9_needRank, N_X9_chartAt]
theorem N_lp_X9_source (xs : List Int32) : lp_X9_source (tbx xs) = lp_X9_source tb0 := by
  unfold lp_X9_source
  simp only [dG_x, lG_x, N_X4_count, N_X4_through, N_X9_needRank, N_X9_chartAt, N_lb0_X9_source]
theorem N_X9_source (xs : List Int32) : f_X9_source (tbx xs) = f_X9_source tb0 := by
  unfold f_X9_source
  simp only [dG_x, lG_x, N_X4_count, N_X4_through, N_X9_needRank, N_X9_chartAt, N_lb0_X9_source, N_lp_X9_source]
theorem N_X9_rounds (xs : List Int32) : f_X9_rounds (tbx xs) = f_X9_rounds tb0 := by
  unfold f_X9_rounds
  simp only [dG_x, lG_x, N_X6_take, N_X9_chartAt]
theorem N_X9_period (xs : List Int32) : f_X9_period (tbx xs) = f_X9_period tb0 := by
  unfold f_X9_period
  simp only [dG_x, lG_x, N_X6_take, N_X9_chartAt]
theorem N_X9_against (xs : List Int32) : f_X9_against (tbx xs) = f_X9_against tb0 := by
  unfold f_X9_against
  simp only [dG_x, lG_x, N_X9_chartAt, N_X9_firstAgainst]
theorem N_X9_isPairedOff (xs : List Int32) : f_X9_isPairedOff (tbx xs) = f_X9_isPairedOff tb0 := by
  unfold f_X9_isPairedOff
  simp only [dG_x, lG_x, N_X4_through, N_X4_valueOf]
theorem N_lb0_X9_cancels (xs : List Int32) : lb0_X9_cancels (tbx xs) = lb0_X9_cancels tb0 := by
  unfold lb0_X9_cancels
  simp only [dG_x, lG_x, N_X4_count, N_X9_chartAt, N_X9_isPairedOff]
theorem N_lp_X9_cancels (xs : List Int32) : lp_X9_cancels (tbx xs) = lp_X9_cancels tb0 := by
  unfold lp_X9_cancels
  simp only [dG_x, lG_x, N_X4_count, N_X9_chartAt, N_X9_isPairedOff, N_lb0_X9_cancels]
theorem N_X9_cancels (xs : List Int32) : f_X9_cancels (tbx xs) = f_X9_cancels tb0 := by
  unfold f_X9_cancels
  simp only [dG_x, lG_x, N_X4_count, N_X9_chartAt, N_X9_isPairedOff, N_lb0_X9_cancels, N_lp_X9_cancels]
theorem N_X9_ofWalker (xs : List Int32) : f_X9_ofWalker (tbx xs) = f_X9_ofWalker tb0 := by
  unfold f_X9_ofWalker
  simp only [dG_x, lG_x, N_X4_codeOf, N_X9_walkerAt]
theorem N_X9_ofClaim (xs : List Int32) : f_X9_ofClaim (tbx xs) = f_X9_ofClaim tb0 := by
  unfold f_X9_ofClaim
  simp only [dG_x, lG_x, N_X9_claimAt]
theorem N_lb0_X9_refutedClaims (xs : List Int32) : lb0_X9_refutedClaims (tbx xs) = lb0_X9_refutedClaims tb0 := by
  unfold lb0_X9_refutedClaims
  simp only [dG_x, lG_x, N_X9_claimAt]
theorem N_lp_X9_refutedClaims (xs : List Int32) : lp_X9_refutedClaims (tbx xs) = lp_X9_refutedClaims tb0 := by
  unfold lp_X9_refutedClaims
  simp only [dG_x, lG_x, N_X9_claimAt, N_lb0_X9_refutedClaims]
theorem N_X9_refutedClaims (xs : List Int32) : f_X9_refutedClaims (tbx xs) = f_X9_refutedClaims tb0 := by
  unfold f_X9_refutedClaims
  simp only [dG_x, lG_x, N_X9_claimAt, N_lb0_X9_refutedClaims, N_lp_X9_refutedClaims]
theorem N_X9_many (xs : List Int32) : f_X9_many (tbx xs) = f_X9_many tb0 := by
  unfold f_X9_many
  simp only [dG_x, lG_x, N_X9_refutedClaims]
theorem N_lb0_X9_mean (xs : List Int32) : lb0_X9_mean (tbx xs) = lb0_X9_mean tb0 := by
  unfold lb0_X9_mean
  simp only [dG_x, lG_x, N_X4_count, N_X4_countOf]
theorem N_lp_X9_mean (xs : List Int32) : lp_X9_mean (tbx xs) = lp_X9_mean tb0 := by
  unfold lp_X9_mean
  simp only [dG_x, lG_x, N_X4_count, N_X4_countOf, N_lb0_X9_mean]
theorem N_X9_mean (xs : List Int32) : f_X9_mean (tbx xs) = f_X9_mean tb0 := by
  unfold f_X9_mean
  simp only [dG_x, lG_x, N_X4_count, N_X4_countOf, N_lb0_X9_mean, N_lp_X9_mean]
theorem N_lb0_X9_digestOfObjects (xs : List Int32) : lb0_X9_digestOfObjects (tbx xs) = lb0_X9_digestOfObjects tb0 := by
  unfold lb0_X9_digestOfObjects
  simp only [dG_x, lG_x, N_X9_objects, N_X9_signs, N_X9_many]
theorem N_lb1_X9_digestOfObjects (xs : List Int32) : lb1_X9_digestOfObjects (tbx xs) = lb1_X9_digestOfObjects tb0 := by
  unfold lb1_X9_digestOfObjects
  simp only [dG_x, lG_x, N_X9_objects, N_X9_signs, N_X9_many, N_lb0_X9_digestOfObjects]
theorem N_lb2_X9_digestOfObjects (xs : List Int32) : lb2_X9_digestOfObjects (tbx xs) = lb2_X9_digestOfObjects tb0 := by
  unfold lb2_X9_digestOfObjects
  simp only [dG_x, lG_x, N_X9_objects, N_X9_signs, N_X9_many, N_lb0_X9_digestOfObjects, N_lb1_X9_digestOfObjects]
theorem N_lt_X9_digestOfObjects (xs : List Int32) : lt_X9_digestOfObjects (tbx xs) = lt_X9_digestOfObjects tb0 := by
  unfold lt_X9_digestOfObjects
  simp only [dG_x, lG_x, N_X9_objects, N_X9_signs, N_X9_many, N_lb0_X9_digestOfObjects, N_lb1_X9_digestOfObjects, N_lb2_X9_digestOfObjects]
theorem N_lp_X9_digestOfObjects (xs : List Int32) : lp_X9_digestOfObjects (tbx xs) = lp_X9_digestOfObjects tb0 := by
  unfold lp_X9_digestOfObjects
  simp only [dG_x, lG_x, N_X9_objects, N_X9_signs, N_X9_many, N_lb0_X9_digestOfObjects, N_lb1_X9_digestOfObjects, N_lb2_X9_digestOfObjects, N_lt_X9_digestOfObjects]
theorem N_X9_digestOfObjects (xs : List Int32) : f_X9_digestOfObjects (tbx xs) = f_X9_digestOfObjects tb0 := by
  unfold f_X9_digestOfObjects
  simp only [dG_x, lG_x, N_X9_objects, N_X9_signs, N_X9_many, N_lb0_X9_digestOfObjects, N_lb1_X9_digestOfObjects, N_lb2_X9_digestOfObjects, N_lt_X9_digestOfObjects, N_lp_X9_digestOfObjects]
theorem N_lb0_X9_digestOfMap (xs : List Int32) : lb0_X9_digestOfMap (tbx xs) = lb0_X9_digestOfMap tb0 := by
  unfold lb0_X9_digestOfMap
  simp only [dG_x, lG_x, N_X9_ofMap, N_X9_image, N_X9_rounds, N_X9_period, N_X9_against]
theorem N_lp_X9_digestOfMap (xs : List Int32) : lp_X9_digestOfMap (tbx xs) = lp_X9_digestOfMap tb0 := by
  unfold lp_X9_digestOfMap
  simp only [dG_x, lG_x, N_X9_ofMap, N_X9_image, N_X9_rounds, N_X9_period, N_X9_against, N_lb0_X9_digestOfMap]
theorem N_X9_digestOfMap (xs : List Int32) : f_X9_digestOfMap (tbx xs) = f_X9_digestOfMap tb0 := by
  unfold f_X9_digestOfMap
  simp only [dG_x, lG_x, N_X9_ofMap, N_X9_image, N_X9_rounds, N_X9_period, N_X9_against, N_lb0_X9_digestOfMap, N_lp_X9_digestOfMap]
theorem N_lb0_X9_digest (xs : List Int32) : lb0_X9_digest (tbx xs) = lb0_X9_digest tb0 := by
  unfold lb0_X9_digest
  simp only [dG_x, lG_x, N_X9_sorted, N_X9_ofWalker, N_X9_ofClaim, N_X9_digestOfObjects, N_X9_digestOfMap]
theorem N_lb1_X9_digest (xs : List Int32) : lb1_X9_digest (tbx xs) = lb1_X9_digest tb0 := by
  unfold lb1_X9_digest
  simp only [dG_x, lG_x, N_X9_sorted, N_X9_ofWalker, N_X9_ofClaim, N_X9_digestOfObjects, N_X9_digestOfMap, N_lb0_X9_digest]
theorem N_lb2_X9_digest (xs : List Int32) : lb2_X9_digest (tbx xs) = lb2_X9_digest tb0 := by
  unfold lb2_X9_digest
  simp only [dG_x, lG_x, N_X9_sorted, N_X9_ofWalker, N_X9_ofClaim, N_X9_digestOfObjects, N_X9_digestOfMap, N_lb0_X9_digest, N_lb1_X9_digest]
theorem N_lb3_X9_digest (xs : List Int32) : lb3_X9_digest (tbx xs) = lb3_X9_digest tb0 := by
  unfold lb3_X9_digest
  simp only [dG_x, lG_x, N_X9_sorted, N_X9_ofWalker, N_X9_ofClaim, N_X9_digestOfObjects, N_X9_digestOfMap, N_lb0_X9_digest, N_lb1_X9_digest, N_lb2_X9_digest]
theorem N_lb4_X9_digest (xs : List Int32) : lb4_X9_digest (tbx xs) = lb4_X9_digest tb0 := by
  unfold lb4_X9_digest
  simp only [dG_x, lG_x, N_X9_sorted, N_X9_ofWalker, N_X9_ofClaim, N_X9_digestOfObjects, N_X9_digestOfMap, N_lb0_X9_digest, N_lb1_X9_digest, N_lb2_X9_digest, N_lb3_X9_digest]
theorem N_lt_X9_digest (xs : List Int32) : lt_X9_digest (tbx xs) = lt_X9_digest tb0 := by
  unfold lt_X9_digest
  simp only [dG_x, lG_x, N_X9_sorted, N_X9_ofWalker, N_X9_ofClaim, N_X9_digestOfObjects, N_X9_digestOfMap, N_lb0_X9_digest, N_lb1_X9_digest, N_lb2_X9_digest, N_lb3_X9_digest, N_lb4_X9_digest]
theorem N_lp_X9_digest (xs : List Int32) : lp_X9_digest (tbx xs) = lp_X9_digest tb0 := by
  unfold lp_X9_digest
  simp only [dG_x, lG_x, N_X9_sorted, N_X9_ofWalker, N_X9_ofClaim, N_X9_digestOfObjects, N_X9_digestOfMap, N_lb0_X9_digest, N_lb1_X9_digest, N_lb2_X9_digest, N_lb3_X9_digest, N_lb4_X9_digest, N_lt_X9_digest]
theorem N_X9_digest (xs : List Int32) : f_X9_digest (tbx xs) = f_X9_digest tb0 := by
  unfold f_X9_digest
  simp only [dG_x, lG_x, N_X9_sorted, N_X9_ofWalker, N_X9_ofClaim, N_X9_digestOfObjects, N_X9_digestOfMap, N_lb0_X9_digest, N_lb1_X9_digest, N_lb2_X9_digest, N_lb3_X9_digest, N_lb4_X9_digest, N_lt_X9_digest, N_lp_X9_digest]
theorem N_lb0_X12_fill (xs : List Int32) : lb0_X12_fill (tbx xs) = lb0_X12_fill tb0 := by
  unfold lb0_X12_fill
  simp only [dG_x, lG_x]
theorem N_lp_X12_fill (xs : List Int32) : lp_X12_fill (tbx xs) = lp_X12_fill tb0 := by
  unfold lp_X12_fill
  simp only [dG_x, lG_x, N_lb0_X12_fill]
theorem N_fb_X12_fill (xs : List Int32) : fb_X12_fill (tbx xs) = fb_X12_fill tb0 := by
  unfold fb_X12_fill
  simp only [dG_x, lG_x, N_lb0_X12_fill, N_lp_X12_fill]
theorem N_X12_fill (xs : List Int32) : f_X12_fill (tbx xs) = f_X12_fill tb0 := by
  unfold f_X12_fill
  simp only [dG_x, lG_x, N_lb0_X12_fill, N_lp_X12_fill, N_fb_X12_fill]
theorem N_lb0_X12_grow (xs : List Int32) : lb0_X12_grow (tbx xs) = lb0_X12_grow tb0 := by
  unfold lb0_X12_grow
  simp only [dG_x, lG_x, N_X12_fill]
theorem N_lb1_X12_grow (xs : List Int32) : lb1_X12_grow (tbx xs) = lb1_X12_grow tb0 := by
  unfold lb1_X12_grow
  simp only [dG_x, lG_x, N_X12_fill, N_lb0_X12_grow]
theorem N_lt_X12_grow (xs : List Int32) : lt_X12_grow (tbx xs) = lt_X12_grow tb0 := by
  unfold lt_X12_grow
  simp only [dG_x, lG_x, N_X12_fill, N_lb0_X12_grow, N_lb1_X12_grow]
theorem N_lp_X12_grow (xs : List Int32) : lp_X12_grow (tbx xs) = lp_X12_grow tb0 := by
  unfold lp_X12_grow
  simp only [dG_x, lG_x, N_X12_fill, N_lb0_X12_grow, N_lb1_X12_grow, N_lt_X12_grow]
theorem N_X12_grow (xs : List Int32) : f_X12_grow (tbx xs) = f_X12_grow tb0 := by
  unfold f_X12_grow
  simp only [dG_x, lG_x, N_X12_fill, N_lb0_X12_grow, N_lb1_X12_grow, N_lt_X12_grow, N_lp_X12_grow]
theorem N_X12_init (xs : List Int32) : f_X12_init (tbx xs) = f_X12_init tb0 := by
  unfold f_X12_init
  simp only [dG_x, lG_x, N_X12_grow]
theorem N_lb0_X12_index (xs : List Int32) : lb0_X12_index (tbx xs) = lb0_X12_index tb0 := by
  unfold lb0_X12_index
  simp only [dG_x, lG_x]
theorem N_lp_X12_index (xs : List Int32) : lp_X12_index (tbx xs) = lp_X12_index tb0 := by
  unfold lp_X12_index
  simp only [dG_x, lG_x, N_lb0_X12_index]
theorem N_X12_index (xs : List Int32) : f_X12_index (tbx xs) = f_X12_index tb0 := by
  unfold f_X12_index
  simp only [dG_x, lG_x, N_lb0_X12_index, N_lp_X12_index]
theorem N_lb0_X12_written (xs : List Int32) : lb0_X12_written (tbx xs) = lb0_X12_written tb0 := by
  unfold lb0_X12_written
  simp only [dG_x, lG_x]
theorem N_lp_X12_written (xs : List Int32) : lp_X12_written (tbx xs) = lp_X12_written tb0 := by
  unfold lp_X12_written
  simp only [dG_x, lG_x, N_lb0_X12_written]
theorem N_X12_written (xs : List Int32) : f_X12_written (tbx xs) = f_X12_written tb0 := by
  unfold f_X12_written
  simp only [dG_x, lG_x, N_lb0_X12_written, N_lp_X12_written]
theorem N_lb0_X12_sort (xs : List Int32) : lb0_X12_sort (tbx xs) = lb0_X12_sort tb0 := by
  unfold lb0_X12_sort
  simp only [dG_x, lG_x, N_X12_written]
theorem N_lb1_X12_sort (xs : List Int32) : lb1_X12_sort (tbx xs) = lb1_X12_sort tb0 := by
  unfold lb1_X12_sort
  simp only [dG_x, lG_x, N_X12_written, N_lb0_X12_sort]
theorem N_lb2_X12_sort (xs : List Int32) : lb2_X12_sort (tbx xs) = lb2_X12_sort tb0 := by
  unfold lb2_X12_sort
  simp only [dG_x, lG_x, N_X12_written, N_lb0_X12_sort, N_lb1_X12_sort]
theorem N_lt_X12_sort (xs : List Int32) : lt_X12_sort (tbx xs) = lt_X12_sort tb0 := by
  unfold lt_X12_sort
  simp only [dG_x, lG_x, N_X12_written, N_lb0_X12_sort, N_lb1_X12_sort, N_lb2_X12_sort]
theorem N_lp_X12_sort (xs : List Int32) : lp_X12_sort (tbx xs) = lp_X12_sort tb0 := by
  unfold lp_X12_sort
  simp only [dG_x, lG_x, N_X12_written, N_lb0_X12_sort, N_lb1_X12_sort, N_lb2_X12_sort, N_lt_X12_sort]
theorem N_X12_sort (xs : List Int32) : f_X12_sort (tbx xs) = f_X12_sort tb0 := by
  unfold f_X12_sort
  simp only [dG_x, lG_x, N_X12_written, N_lb0_X12_sort, N_lb1_X12_sort, N_lb2_X12_sort, N_lt_X12_sort, N_lp_X12_sort]
theorem N_lb0_X12_ofPath (xs : List Int32) : lb0_X12_ofPath (tbx xs) = lb0_X12_ofPath tb0 := by
  unfold lb0_X12_ofPath
  simp only [dG_x, lG_x]
theorem N_lp_X12_ofPath (xs : List Int32) : lp_X12_ofPath (tbx xs) = lp_X12_ofPath tb0 := by
  unfold lp_X12_ofPath
  simp only [dG_x, lG_x, N_lb0_X12_ofPath]
theorem N_X12_ofPath (xs : List Int32) : f_X12_ofPath (tbx xs) = f_X12_ofPath tb0 := by
  unfold f_X12_ofPath
  simp only [dG_x, lG_x, N_lb0_X12_ofPath, N_lp_X12_ofPath]
theorem N_lb0_X12_ofOrder (xs : List Int32) : lb0_X12_ofOrder (tbx xs) = lb0_X12_ofOrder tb0 := by
  unfold lb0_X12_ofOrder
  simp only [dG_x, lG_x]
theorem N_lb1_X12_ofOrder (xs : List Int32) : lb1_X12_ofOrder (tbx xs) = lb1_X12_ofOrder tb0 := by
  unfold lb1_X12_ofOrder
  simp only [dG_x, lG_x, N_lb0_X12_ofOrder]
theorem N_lt_X12_ofOrder (xs : List Int32) : lt_X12_ofOrder (tbx xs) = lt_X12_ofOrder tb0 := by
  unfold lt_X12_ofOrder
  simp only [dG_x, lG_x, N_lb0_X12_ofOrder, N_lb1_X12_ofOrder]
theorem N_lp_X12_ofOrder (xs : List Int32) : lp_X12_ofOrder (tbx xs) = lp_X12_ofOrder tb0 := by
  unfold lp_X12_ofOrder
  simp only [dG_x, lG_x, N_lb0_X12_ofOrder, N_lb1_X12_ofOrder, N_lt_X12_ofOrder]
theorem N_X12_ofOrder (xs : List Int32) : f_X12_ofOrder (tbx xs) = f_X12_ofOrder tb0 := by
  unfold f_X12_ofOrder
  simp only [dG_x, lG_x, N_lb0_X12_ofOrder, N_lb1_X12_ofOrder, N_lt_X12_ofOrder, N_lp_X12_ofOrder]
theorem N_X12_statisticOf (xs : List Int32) : f_X12_statisticOf (tbx xs) = f_X12_statisticOf tb0 := by
  unfold f_X12_statisticOf
  simp only [dG_x, lG_x, N_X12_ofPath, N_X12_ofOrder]
theorem N_lb0_X12_statistics (xs : List Int32) : lb0_X12_statistics (tbx xs) = lb0_X12_statistics tb0 := by
  unfold lb0_X12_statistics
  simp only [dG_x, lG_x, N_X12_statisticOf]
theorem N_lp_X12_statistics (xs : List Int32) : lp_X12_statistics (tbx xs) = lp_X12_statistics tb0 := by
  unfold lp_X12_statistics
  simp only [dG_x, lG_x, N_X12_statisticOf, N_lb0_X12_statistics]
theorem N_X12_statistics (xs : List Int32) : f_X12_statistics (tbx xs) = f_X12_statistics tb0 := by
  unfold f_X12_statistics
  simp only [dG_x, lG_x, N_X12_statisticOf, N_lb0_X12_statistics, N_lp_X12_statistics]
theorem N_X12_size (xs : List Int32) : f_X12_size (tbx xs) = f_X12_size tb0 := by
  unfold f_X12_size
  simp only [dG_x, lG_x, N_X12_grow]
theorem N_Jx4a65c_grow_92f84 (xs : List Int32) : f_Jx4a65c_grow_92f84 (tbx xs) = f_Jx4a65c_grow_92f84 tb0 := by
  unfold f_Jx4a65c_grow_92f84
  simp only [dG_x, lG_x]
theorem N_Jx4a65c_grow_d5877 (xs : List Int32) : f_Jx4a65c_grow_d5877 (tbx xs) = f_Jx4a65c_grow_d5877 tb0 := by
  unfold f_Jx4a65c_grow_d5877
  simp only [dG_x, lG_x, N_Jx4a65c_grow_92f84]
theorem N_Jx4a65c_add_72be8 (xs : List Int32) : f_Jx4a65c_add_72be8 (tbx xs) = f_Jx4a65c_add_72be8 tb0 := by
  unfold f_Jx4a65c_add_72be8
  simp only [dG_x, lG_x, N_Jx4a65c_grow_d5877]
theorem N_Jx4a65c_add_9ea2d (xs : List Int32) : f_Jx4a65c_add_9ea2d (tbx xs) = f_Jx4a65c_add_9ea2d tb0 := by
  unfold f_Jx4a65c_add_9ea2d
  simp only [dG_x, lG_x, N_Jx4a65c_add_72be8]
theorem N_X12_map (xs : List Int32) : f_X12_map (tbx xs) = f_X12_map tb0 := by
  unfold f_X12_map
  simp only [dG_x, lG_x, N_Jx4a65c_add_9ea2d]
theorem N_X12_then (xs : List Int32) : f_X12_then (tbx xs) = f_X12_then tb0 := by
  unfold f_X12_then
  simp only [dG_x, lG_x, N_Jx4a65c_add_9ea2d]
theorem N_X12_walker (xs : List Int32) : f_X12_walker (tbx xs) = f_X12_walker tb0 := by
  unfold f_X12_walker
  simp only [dG_x, lG_x, N_X12_index, N_Jx4a65c_add_9ea2d]
theorem N_X12_objects (xs : List Int32) : f_X12_objects (tbx xs) = f_X12_objects tb0 := by
  unfold f_X12_objects
  simp only [dG_x, lG_x]
theorem N_X12_isNoRank (xs : List Int32) : f_X12_isNoRank (tbx xs) = f_X12_isNoRank tb0 := by
  unfold f_X12_isNoRank
  simp only [dG_x, lG_x]
theorem N_X12_unrank (xs : List Int32) : f_X12_unrank (tbx xs) = f_X12_unrank tb0 := by
  unfold f_X12_unrank
  simp only [dG_x, lG_x, N_X12_isNoRank]
theorem N_X12_rank (xs : List Int32) : f_X12_rank (tbx xs) = f_X12_rank tb0 := by
  unfold f_X12_rank
  simp only [dG_x, lG_x, N_X12_index]
theorem N_X12_statistic (xs : List Int32) : f_X12_statistic (tbx xs) = f_X12_statistic tb0 := by
  unfold f_X12_statistic
  simp only [dG_x, lG_x, N_X12_statisticOf, N_X12_isNoRank]
theorem N_lb0_X12_spread (xs : List Int32) : lb0_X12_spread (tbx xs) = lb0_X12_spread tb0 := by
  unfold lb0_X12_spread
  simp only [dG_x, lG_x, N_X12_statistics]
theorem N_lp_X12_spread (xs : List Int32) : lp_X12_spread (tbx xs) = lp_X12_spread tb0 := by
  unfold lp_X12_spread
  simp only [dG_x, lG_x, N_X12_statistics, N_lb0_X12_spread]
theorem N_X12_spread (xs : List Int32) : f_X12_spread (tbx xs) = f_X12_spread tb0 := by
  unfold f_X12_spread
  simp only [dG_x, lG_x, N_X12_statistics, N_lb0_X12_spread, N_lp_X12_spread]
theorem N_lb0_X12_signsNow (xs : List Int32) : lb0_X12_signsNow (tbx xs) = lb0_X12_signsNow tb0 := by
  unfold lb0_X12_signsNow
  simp only [dG_x, lG_x, N_X12_statistics]
theorem N_lp_X12_signsNow (xs : List Int32) : lp_X12_signsNow (tbx xs) = lp_X12_signsNow tb0 := by
  unfold lp_X12_signsNow
  simp only [dG_x, lG_x, N_X12_statistics, N_lb0_X12_signsNow]
theorem N_X12_signsNow (xs : List Int32) : f_X12_signsNow (tbx xs) = f_X12_signsNow tb0 := by
  unfold f_X12_signsNow
  simp only [dG_x, lG_x, N_X12_statistics, N_lb0_X12_signsNow, N_lp_X12_signsNow]
theorem N_X12_signs (xs : List Int32) : f_X12_signs (tbx xs) = f_X12_signs tb0 := by
  unfold f_X12_signs
  simp only [dG_x, lG_x, N_X12_signsNow]
theorem N_lb0_X12_alike (xs : List Int32) : lb0_X12_alike (tbx xs) = lb0_X12_alike tb0 := by
  unfold lb0_X12_alike
  simp only [dG_x, lG_x, N_X12_statistics]
theorem N_lb1_X12_alike (xs : List Int32) : lb1_X12_alike (tbx xs) = lb1_X12_alike tb0 := by
  unfold lb1_X12_alike
  simp only [dG_x, lG_x, N_X12_statistics, N_lb0_X12_alike]
theorem N_lb2_X12_alike (xs : List Int32) : lb2_X12_alike (tbx xs) = lb2_X12_alike tb0 := by
  unfold lb2_X12_alike
  simp only [dG_x, lG_x, N_X12_statistics, N_lb0_X12_alike, N_lb1_X12_alike]
theorem N_lt_X12_alike (xs : List Int32) : lt_X12_alike (tbx xs) = lt_X12_alike tb0 := by
  unfold lt_X12_alike
  simp only [dG_x, lG_x, N_X12_statistics, N_lb0_X12_alike, N_lb1_X12_alike, N_lb2_X12_alike]
theorem N_lp_X12_alike (xs : List Int32) : lp_X12_alike (tbx xs) = lp_X12_alike tb0 := by
  unfold lp_X12_alike
  simp only [dG_x, lG_x, N_X12_statistics, N_lb0_X12_alike, N_lb1_X12_alike, N_lb2_X12_alike, N_lt_X12_alike]
theorem N_X12_alike (xs : List Int32) : f_X12_alike (tbx xs) = f_X12_alike tb0 := by
  unfold f_X12_alike
  simp only [dG_x, lG_x, N_X12_statistics, N_lb0_X12_alike, N_lb1_X12_alike, N_lb2_X12_alike, N_lt_X12_alike, N_lp_X12_alike]
theorem N_lb0_X12_isLike (xs : List Int32) : lb0_X12_isLike (tbx xs) = lb0_X12_isLike tb0 := by
  unfold lb0_X12_isLike
  simp only [dG_x, lG_x]
theorem N_lb1_X12_isLike (xs : List Int32) : lb1_X12_isLike (tbx xs) = lb1_X12_isLike tb0 := by
  unfold lb1_X12_isLike
  simp only [dG_x, lG_x, N_lb0_X12_isLike]
theorem N_lb2_X12_isLike (xs : List Int32) : lb2_X12_isLike (tbx xs) = lb2_X12_isLike tb0 := by
  unfold lb2_X12_isLike
  simp only [dG_x, lG_x, N_lb0_X12_isLike, N_lb1_X12_isLike]
theorem N_lt_X12_isLike (xs : List Int32) : lt_X12_isLike (tbx xs) = lt_X12_isLike tb0 := by
  unfold lt_X12_isLike
  simp only [dG_x, lG_x, N_lb0_X12_isLike, N_lb1_X12_isLike, N_lb2_X12_isLike]
theorem N_lp_X12_isLike (xs : List Int32) : lp_X12_isLike (tbx xs) = lp_X12_isLike tb0 := by
  unfold lp_X12_isLike
  simp only [dG_x, lG_x, N_lb0_X12_isLike, N_lb1_X12_isLike, N_lb2_X12_isLike, N_lt_X12_isLike]
theorem N_X12_isLike (xs : List Int32) : f_X12_isLike (tbx xs) = f_X12_isLike tb0 := by
  unfold f_X12_isLike
  simp only [dG_x, lG_x, N_lb0_X12_isLike, N_lb1_X12_isLike, N_lb2_X12_isLike, N_lt_X12_isLike, N_lp_X12_isLike]
theorem N_lb0_X12_contains (xs : List Int32) : lb0_X12_contains (tbx xs) = lb0_X12_contains tb0 := by
  unfold lb0_X12_contains
  simp only [dG_x, lG_x, N_X12_isNoRank, N_X12_isLike]
theorem N_lp_X12_contains (xs : List Int32) : lp_X12_contains (tbx xs) = lp_X12_contains tb0 := by
  unfold lp_X12_contains
  simp only [dG_x, lG_x, N_X12_isNoRank, N_X12_isLike, N_lb0_X12_contains]
theorem N_X12_contains (xs : List Int32) : f_X12_contains (tbx xs) = f_X12_contains tb0 := by
  unfold f_X12_contains
  simp only [dG_x, lG_x, N_X12_isNoRank, N_X12_isLike, N_lb0_X12_contains, N_lp_X12_contains]
theorem N_lb0_X12_sortedNow (xs : List Int32) : lb0_X12_sortedNow (tbx xs) = lb0_X12_sortedNow tb0 := by
  unfold lb0_X12_sortedNow
  simp only [dG_x, lG_x, N_X12_sort]
theorem N_lb1_X12_sortedNow (xs : List Int32) : lb1_X12_sortedNow (tbx xs) = lb1_X12_sortedNow tb0 := by
  unfold lb1_X12_sortedNow
  simp only [dG_x, lG_x, N_X12_sort, N_lb0_X12_sortedNow]
theorem N_lt_X12_sortedNow (xs : List Int32) : lt_X12_sortedNow (tbx xs) = lt_X12_sortedNow tb0 := by
  unfold lt_X12_sortedNow
  simp only [dG_x, lG_x, N_X12_sort, N_lb0_X12_sortedNow, N_lb1_X12_sortedNow]
theorem N_lp_X12_sortedNow (xs : List Int32) : lp_X12_sortedNow (tbx xs) = lp_X12_sortedNow tb0 := by
  unfold lp_X12_sortedNow
  simp only [dG_x, lG_x, N_X12_sort, N_lb0_X12_sortedNow, N_lb1_X12_sortedNow, N_lt_X12_sortedNow]
theorem N_X12_sortedNow (xs : List Int32) : f_X12_sortedNow (tbx xs) = f_X12_sortedNow tb0 := by
  unfold f_X12_sortedNow
  simp only [dG_x, lG_x, N_X12_sort, N_lb0_X12_sortedNow, N_lb1_X12_sortedNow, N_lt_X12_sortedNow, N_lp_X12_sortedNow]
theorem N_X12_sorted (xs : List Int32) : f_X12_sorted (tbx xs) = f_X12_sorted tb0 := by
  unfold f_X12_sorted
  simp only [dG_x, lG_x, N_X12_sortedNow]
theorem N_X12_source (xs : List Int32) : f_X12_source (tbx xs) = f_X12_source tb0 := by
  unfold f_X12_source
  simp only [dG_x, lG_x]
theorem N_X12_cancels (xs : List Int32) : f_X12_cancels (tbx xs) = f_X12_cancels tb0 := by
  unfold f_X12_cancels
  simp only [dG_x, lG_x]
theorem N_lb0_X12_mean (xs : List Int32) : lb0_X12_mean (tbx xs) = lb0_X12_mean tb0 := by
  unfold lb0_X12_mean
  simp only [dG_x, lG_x, N_X12_statistics]
theorem N_lp_X12_mean (xs : List Int32) : lp_X12_mean (tbx xs) = lp_X12_mean tb0 := by
  unfold lp_X12_mean
  simp only [dG_x, lG_x, N_X12_statistics, N_lb0_X12_mean]
theorem N_X12_mean (xs : List Int32) : f_X12_mean (tbx xs) = f_X12_mean tb0 := by
  unfold f_X12_mean
  simp only [dG_x, lG_x, N_X12_statistics, N_lb0_X12_mean, N_lp_X12_mean]
theorem N_lb0_X12_digest (xs : List Int32) : lb0_X12_digest (tbx xs) = lb0_X12_digest tb0 := by
  unfold lb0_X12_digest
  simp only [dG_x, lG_x, N_X12_signsNow, N_X12_sortedNow]
theorem N_lb1_X12_digest (xs : List Int32) : lb1_X12_digest (tbx xs) = lb1_X12_digest tb0 := by
  unfold lb1_X12_digest
  simp only [dG_x, lG_x, N_X12_signsNow, N_X12_sortedNow, N_lb0_X12_digest]
theorem N_lb2_X12_digest (xs : List Int32) : lb2_X12_digest (tbx xs) = lb2_X12_digest tb0 := by
  unfold lb2_X12_digest
  simp only [dG_x, lG_x, N_X12_signsNow, N_X12_sortedNow, N_lb0_X12_digest, N_lb1_X12_digest]
theorem N_lb3_X12_digest (xs : List Int32) : lb3_X12_digest (tbx xs) = lb3_X12_digest tb0 := by
  unfold lb3_X12_digest
  simp only [dG_x, lG_x, N_X12_signsNow, N_X12_sortedNow, N_lb0_X12_digest, N_lb1_X12_digest, N_lb2_X12_digest]
theorem N_lb4_X12_digest (xs : List Int32) : lb4_X12_digest (tbx xs) = lb4_X12_digest tb0 := by
  unfold lb4_X12_digest
  simp only [dG_x, lG_x, N_X12_signsNow, N_X12_sortedNow, N_lb0_X12_digest, N_lb1_X12_digest, N_lb2_X12_digest, N_lb3_X12_digest]
theorem N_lt_X12_digest (xs : List Int32) : lt_X12_digest (tbx xs) = lt_X12_digest tb0 := by
  unfold lt_X12_digest
  simp only [dG_x, lG_x, N_X12_signsNow, N_X12_sortedNow, N_lb0_X12_digest, N_lb1_X12_digest, N_lb2_X12_digest, N_lb3_X12_digest, N_lb4_X12_digest]
theorem N_lp_X12_digest (xs : List Int32) : lp_X12_digest (tbx xs) = lp_X12_digest tb0 := by
  unfold lp_X12_digest
  simp only [dG_x, lG_x, N_X12_signsNow, N_X12_sortedNow, N_lb0_X12_digest, N_lb1_X12_digest, N_lb2_X12_digest, N_lb3_X12_digest, N_lb4_X12_digest, N_lt_X12_digest]
theorem N_X12_digest (xs : List Int32) : f_X12_digest (tbx xs) = f_X12_digest tb0 := by
  unfold f_X12_digest
  simp only [dG_x, lG_x, N_X12_signsNow, N_X12_sortedNow, N_lb0_X12_digest, N_lb1_X12_digest, N_lb2_X12_digest, N_lb3_X12_digest, N_lb4_X12_digest, N_lt_X12_digest, N_lp_X12_digest]
theorem N_L_size (xs : List Int32) : f_L_size (tbx xs) = f_L_size tb0 := by
  unfold f_L_size
  simp only [dG_x, lG_x, N_X9_size]
theorem N_L_map (xs : List Int32) : f_L_map (tbx xs) = f_L_map tb0 := by
  unfold f_L_map
  simp only [dG_x, lG_x, N_X9_map]
theorem N_L_then (xs : List Int32) : f_L_then (tbx xs) = f_L_then tb0 := by
  unfold f_L_then
  simp only [dG_x, lG_x, N_X9_then]
theorem N_L_walker (xs : List Int32) : f_L_walker (tbx xs) = f_L_walker tb0 := by
  unfold f_L_walker
  simp only [dG_x, lG_x, N_X9_walker]
theorem N_L_claim (xs : List Int32) : f_L_claim (tbx xs) = f_L_claim tb0 := by
  unfold f_L_claim
  simp only [dG_x, lG_x, N_X9_claim]
theorem N_L_send (xs : List Int32) : f_L_send (tbx xs) = f_L_send tb0 := by
  unfold f_L_send
  simp only [dG_x, lG_x, N_X9_send]
theorem N_L_trial (xs : List Int32) : f_L_trial (tbx xs) = f_L_trial tb0 := by
  unfold f_L_trial
  simp only [dG_x, lG_x, N_X9_trial]
theorem N_L_objects (xs : List Int32) : f_L_objects (tbx xs) = f_L_objects tb0 := by
  unfold f_L_objects
  simp only [dG_x, lG_x, N_X9_objects]
theorem N_L_unrank (xs : List Int32) : f_L_unrank (tbx xs) = f_L_unrank tb0 := by
  unfold f_L_unrank
  simp only [dG_x, lG_x, N_X9_unrank]
theorem N_L_rank (xs : List Int32) : f_L_rank (tbx xs) = f_L_rank tb0 := by
  unfold f_L_rank
  simp only [dG_x, lG_x, N_X9_rank]
theorem N_L_statistic (xs : List Int32) : f_L_statistic (tbx xs) = f_L_statistic tb0 := by
  unfold f_L_statistic
  simp only [dG_x, lG_x, N_X9_statistic]
theorem N_L_spread (xs : List Int32) : f_L_spread (tbx xs) = f_L_spread tb0 := by
  unfold f_L_spread
  simp only [dG_x, lG_x, N_X9_spread]
theorem N_L_signs (xs : List Int32) : f_L_signs (tbx xs) = f_L_signs tb0 := by
  unfold f_L_signs
  simp only [dG_x, lG_x, N_X9_signs]
theorem N_L_alike (xs : List Int32) : f_L_alike (tbx xs) = f_L_alike tb0 := by
  unfold f_L_alike
  simp only [dG_x, lG_x, N_X9_alike]
theorem N_L_contains (xs : List Int32) : f_L_contains (tbx xs) = f_L_contains tb0 := by
  unfold f_L_contains
  simp only [dG_x, lG_x, N_X9_contains]
theorem N_L_sorted (xs : List Int32) : f_L_sorted (tbx xs) = f_L_sorted tb0 := by
  unfold f_L_sorted
  simp only [dG_x, lG_x, N_X9_sorted]
theorem N_L_ofMap (xs : List Int32) : f_L_ofMap (tbx xs) = f_L_ofMap tb0 := by
  unfold f_L_ofMap
  simp only [dG_x, lG_x, N_X9_ofMap]
theorem N_L_image (xs : List Int32) : f_L_image (tbx xs) = f_L_image tb0 := by
  unfold f_L_image
  simp only [dG_x, lG_x, N_X9_image]
theorem N_L_source (xs : List Int32) : f_L_source (tbx xs) = f_L_source tb0 := by
  unfold f_L_source
  simp only [dG_x, lG_x, N_X9_source]
theorem N_L_rounds (xs : List Int32) : f_L_rounds (tbx xs) = f_L_rounds tb0 := by
  unfold f_L_rounds
  simp only [dG_x, lG_x, N_X9_rounds]
theorem N_L_period (xs : List Int32) : f_L_period (tbx xs) = f_L_period tb0 := by
  unfold f_L_period
  simp only [dG_x, lG_x, N_X9_period]
theorem N_L_against (xs : List Int32) : f_L_against (tbx xs) = f_L_against tb0 := by
  unfold f_L_against
  simp only [dG_x, lG_x, N_X9_against]
theorem N_L_cancels (xs : List Int32) : f_L_cancels (tbx xs) = f_L_cancels tb0 := by
  unfold f_L_cancels
  simp only [dG_x, lG_x, N_X9_cancels]
theorem N_L_ofWalker (xs : List Int32) : f_L_ofWalker (tbx xs) = f_L_ofWalker tb0 := by
  unfold f_L_ofWalker
  simp only [dG_x, lG_x, N_X9_ofWalker]
theorem N_L_ofClaim (xs : List Int32) : f_L_ofClaim (tbx xs) = f_L_ofClaim tb0 := by
  unfold f_L_ofClaim
  simp only [dG_x, lG_x, N_X9_ofClaim]
theorem N_L_many (xs : List Int32) : f_L_many (tbx xs) = f_L_many tb0 := by
  unfold f_L_many
  simp only [dG_x, lG_x, N_X9_many]
theorem N_L_mean (xs : List Int32) : f_L_mean (tbx xs) = f_L_mean tb0 := by
  unfold f_L_mean
  simp only [dG_x, lG_x, N_X9_mean]
