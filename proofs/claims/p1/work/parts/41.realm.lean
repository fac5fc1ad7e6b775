/-! ===== a size's rows: what Realm.of makes ===== -/
theorem no_none {α : Type} {x : α} {G : Prop} (h : (none : Option α) = some x) : G := by cases h
theorem put_row' {tb : List (List Int32)} (ht : tb.length = nS) {hs : kHS} {i j v : Nat} {xs : List Nat} (hq : hs.1[i]? = some (100, ints xs)) (hj : j < 2147483648) (hl : xs.length < 2147483648) : f_X5_put tb (ad i) j v hs = some (.inl (), (hs.1.set i (100, ints (xs.set j v)), hs.2)) := by
  by_cases hc : j < xs.length
  · exact put_row ht hq hc hl
  · rw [show xs.set j v = xs from List.set_eq_of_length_le (by omega)]
    have h1 : hs.1.set i (100, ints xs) = hs.1 := by
      apply List.ext_getElem?
      intro k
      rw [List.getElem?_set]
      split
      · rename_i e
        subst e
        rw [if_pos (List.getElem?_eq_some_iff.mp hq).1, hq]
      · rfl
    rw [h1]
    unfold f_X5_put
    rw [ad_ne, cond_false, wlt_s hj (by decide), decide_eq_false (by omega), cond_false, dalen_row ht hq, ob_s, wle_s hl hj, decide_eq_true (by omega), cond_true]
    exact dchk_same
def rng (a k : Nat) : List Nat := (List.range k).map fun j => a + j
theorem rng_at {a k j : Nat} (h : j < k) : (rng a k)[j]? = some (a + j) := by simp [rng, h]
theorem rng_len (a k : Nat) : (rng a k).length = k := by simp [rng]
def RealmAt (h : List kCel) (p n : Nat) (P O : List Nat) (I V C : Nat → List Nat) : Prop :=
  h[p]? = some (c_X4, [.int (nI n), .ref (nS + (p + 1)), .ref (nS + (p + 2)), .ref (nS + (p + 3)), .ref (nS + (p + 15)), .ref (nS + (p + 28))]) ∧
  h[p + 1]? = some (100, ints P) ∧ h[p + 2]? = some (100, ints O) ∧
  h[p + 3]? = some (104, refs (rng (p + 4) 11)) ∧ (∀ s, s < 11 → h[p + 4 + s]? = some (100, ints (I s))) ∧
  h[p + 15]? = some (104, refs (rng (p + 16) 12)) ∧ (∀ s, s < 12 → h[p + 16 + s]? = some (100, ints (V s))) ∧
  h[p + 28]? = some (104, refs (rng (p + 29) 12)) ∧ (∀ s, s < 12 → h[p + 29 + s]? = some (100, ints (C s)))
/-- cells outside of lo .. hi are as they were -/
def fr (lo hi : Nat) (h h' : List kCel) : Prop := h'.length = h.length ∧ ∀ q, (q < lo ∨ hi ≤ q) → h'[q]? = h[q]?
theorem fr.rf (lo hi : Nat) (h : List kCel) : fr lo hi h h := ⟨rfl, fun _ _ => rfl⟩
theorem fr.tr {lo hi : Nat} {h h1 h2 : List kCel} (a : fr lo hi h h1) (b : fr lo hi h1 h2) : fr lo hi h h2 := ⟨b.1.trans a.1, fun q hq => (b.2 q hq).trans (a.2 q hq)⟩
theorem fr.set {lo hi i : Nat} {h : List kCel} {c : kCel} (h1 : lo ≤ i) (h2 : i < hi) : fr lo hi h (h.set i c) := ⟨List.length_set, fun q hq => List.getElem?_set_ne (by omega)⟩
theorem fr.wide {lo hi lo2 hi2 : Nat} {h h' : List kCel} (a : fr lo hi h h') (h1 : lo2 ≤ lo) (h2 : hi ≤ hi2) : fr lo2 hi2 h h' := ⟨a.1, fun q hq => a.2 q (by omega)⟩
def up {τ : Type} (f : Nat → τ) (k : Nat) (x : τ) : Nat → τ := fun j => if j = k then x else f j
theorem up_s {τ : Type} (f : Nat → τ) (k : Nat) (x : τ) : up f k x k = x := by simp [up]
theorem up_n {τ : Type} (f : Nat → τ) {k j : Nat} (x : τ) (h : j ≠ k) : up f k x j = f j := by simp [up, h]
section RL
variable {h : List kCel} {p n : Nat} {P O : List Nat} {I V C : Nat → List Nat}
theorem RealmAt.setP (r : RealmAt h p n P O I V C) (P' : List Nat) : RealmAt (h.set (p + 1) (100, ints P')) p n P' O I V C := by
  obtain ⟨h0, h1, h2, h3, h4, h5, h6, h7, h8⟩ := r
  have hl := (List.getElem?_eq_some_iff.mp h1).1
  refine ⟨by rw [List.getElem?_set_ne (by omega)]; exact h0, by rw [List.getElem?_set_self hl], by rw [List.getElem?_set_ne (by omega)]; exact h2, by rw [List.getElem?_set_ne (by omega)]; exact h3, fun s hs => by rw [List.getElem?_set_ne (by omega)]; exact h4 s hs, by rw [List.getElem?_set_ne (by omega)]; exact h5, fun s hs => by rw [List.getElem?_set_ne (by omega)]; exact h6 s hs, by rw [List.getElem?_set_ne (by omega)]; exact h7, fun s hs => by rw [List.getElem?_set_ne (by omega)]; exact h8 s hs⟩
theorem RealmAt.setO (r : RealmAt h p n P O I V C) (O' : List Nat) : RealmAt (h.set (p + 2) (100, ints O')) p n P O' I V C := by
  obtain ⟨h0, h1, h2, h3, h4, h5, h6, h7, h8⟩ := r
  have hl := (List.getElem?_eq_some_iff.mp h2).1
  refine ⟨by rw [List.getElem?_set_ne (by omega)]; exact h0, by rw [List.getElem?_set_ne (by omega)]; exact h1, by rw [List.getElem?_set_self hl], by rw [List.getElem?_set_ne (by omega)]; exact h3, fun s hs => by rw [List.getElem?_set_ne (by omega)]; exact h4 s hs, by rw [List.getElem?_set_ne (by omega)]; exact h5, fun s hs => by rw [List.getElem?_set_ne (by omega)]; exact h6 s hs, by rw [List.getElem?_set_ne (by omega)]; exact h7, fun s hs => by rw [List.getElem?_set_ne (by omega)]; exact h8 s hs⟩
theorem RealmAt.setI (r : RealmAt h p n P O I V C) {k : Nat} (hk : k < 11) (R : List Nat) : RealmAt (h.set (p + 4 + k) (100, ints R)) p n P O (up I k R) V C := by
  obtain ⟨h0, h1, h2, h3, h4, h5, h6, h7, h8⟩ := r
  have hl := (List.getElem?_eq_some_iff.mp (h4 k hk)).1
  refine ⟨by rw [List.getElem?_set_ne (by omega)]; exact h0, by rw [List.getElem?_set_ne (by omega)]; exact h1, by rw [List.getElem?_set_ne (by omega)]; exact h2, by rw [List.getElem?_set_ne (by omega)]; exact h3, fun s hs => ?_, by rw [List.getElem?_set_ne (by omega)]; exact h5, fun s hs => by rw [List.getElem?_set_ne (by omega)]; exact h6 s hs, by rw [List.getElem?_set_ne (by omega)]; exact h7, fun s hs => by rw [List.getElem?_set_ne (by omega)]; exact h8 s hs⟩
  by_cases e : s = k
  · subst e
    rw [List.getElem?_set_self hl, up_s]
  · rw [List.getElem?_set_ne (by omega), up_n _ _ e]
    exact h4 s hs
theorem RealmAt.setV (r : RealmAt h p n P O I V C) {k : Nat} (hk : k < 12) (R : List Nat) : RealmAt (h.set (p + 16 + k) (100, ints R)) p n P O I (up V k R) C := by
  obtain ⟨h0, h1, h2, h3, h4, h5, h6, h7, h8⟩ := r
  have hl := (List.getElem?_eq_some_iff.mp (h6 k hk)).1
  refine ⟨by rw [List.getElem?_set_ne (by omega)]; exact h0, by rw [List.getElem?_set_ne (by omega)]; exact h1, by rw [List.getElem?_set_ne (by omega)]; exact h2, by rw [List.getElem?_set_ne (by omega)]; exact h3, fun s hs => by rw [List.getElem?_set_ne (by omega)]; exact h4 s hs, by rw [List.getElem?_set_ne (by omega)]; exact h5, fun s hs => ?_, by rw [List.getElem?_set_ne (by omega)]; exact h7, fun s hs => by rw [List.getElem?_set_ne (by omega)]; exact h8 s hs⟩
  by_cases e : s = k
  · subst e
    rw [List.getElem?_set_self hl, up_s]
  · rw [List.getElem?_set_ne (by omega), up_n _ _ e]
    exact h6 s hs
theorem RealmAt.setC (r : RealmAt h p n P O I V C) {k : Nat} (hk : k < 12) (R : List Nat) : RealmAt (h.set (p + 29 + k) (100, ints R)) p n P O I V (up C k R) := by
  obtain ⟨h0, h1, h2, h3, h4, h5, h6, h7, h8⟩ := r
  have hl := (List.getElem?_eq_some_iff.mp (h8 k hk)).1
  refine ⟨by rw [List.getElem?_set_ne (by omega)]; exact h0, by rw [List.getElem?_set_ne (by omega)]; exact h1, by rw [List.getElem?_set_ne (by omega)]; exact h2, by rw [List.getElem?_set_ne (by omega)]; exact h3, fun s hs => by rw [List.getElem?_set_ne (by omega)]; exact h4 s hs, by rw [List.getElem?_set_ne (by omega)]; exact h5, fun s hs => by rw [List.getElem?_set_ne (by omega)]; exact h6 s hs, by rw [List.getElem?_set_ne (by omega)]; exact h7, fun s hs => ?_⟩
  by_cases e : s = k
  · subst e
    rw [List.getElem?_set_self hl, up_s]
  · rw [List.getElem?_set_ne (by omega), up_n _ _ e]
    exact h8 s hs
/-- other cells changed -/
theorem RealmAt.fr {lo hi : Nat} {h' : List kCel} (r : RealmAt h p n P O I V C) (f : fr lo hi h h') (hd : hi ≤ p ∨ p + 41 ≤ lo) : RealmAt h' p n P O I V C := by
  obtain ⟨h0, h1, h2, h3, h4, h5, h6, h7, h8⟩ := r
  exact ⟨by rw [f.2 _ (by omega)]; exact h0, by rw [f.2 _ (by omega)]; exact h1, by rw [f.2 _ (by omega)]; exact h2, by rw [f.2 _ (by omega)]; exact h3, fun s hs => by rw [f.2 _ (by omega)]; exact h4 s hs, by rw [f.2 _ (by omega)]; exact h5, fun s hs => by rw [f.2 _ (by omega)]; exact h6 s hs, by rw [f.2 _ (by omega)]; exact h7, fun s hs => by rw [f.2 _ (by omega)]; exact h8 s hs⟩
theorem RealmAt.tag (r : RealmAt h p n P O I V C) : dtag nS c_X4 h (ad p) = some () := dtag_ad r.1
theorem RealmAt.size (r : RealmAt h p n P O I V C) (hn : n < 4294967296) : dgI nS c_X4 0 h (ad p) = some n := dgI_ad r.1 rfl hn
theorem RealmAt.gP (r : RealmAt h p n P O I V C) : dgR nS c_X4 1 h (ad p) = some (ad (p + 1)) := dgR_ad r.1 rfl
theorem RealmAt.gO (r : RealmAt h p n P O I V C) : dgR nS c_X4 2 h (ad p) = some (ad (p + 2)) := dgR_ad r.1 rfl
theorem RealmAt.gI (r : RealmAt h p n P O I V C) : dgR nS c_X4 3 h (ad p) = some (ad (p + 3)) := dgR_ad r.1 rfl
theorem RealmAt.gV (r : RealmAt h p n P O I V C) : dgR nS c_X4 4 h (ad p) = some (ad (p + 15)) := dgR_ad r.1 rfl
theorem RealmAt.gC (r : RealmAt h p n P O I V C) : dgR nS c_X4 5 h (ad p) = some (ad (p + 28)) := dgR_ad r.1 rfl
/-- the codes of a family -/
def fam (f : Nat) (P O : List Nat) : List Nat := if f = 2 then O else P
def famc (f p : Nat) : Nat := if f = 2 then p + 2 else p + 1
theorem RealmAt.codes (r : RealmAt h p n P O I V C) {f : Nat} (hf : f < 3) : f_X4_codes h (ad p) f = some (ad (famc f p)) := by
  unfold f_X4_codes famc
  rw [weq_s (by omega) (by decide)]
  by_cases e : f = 2
  · rw [decide_eq_true e, if_pos e, r.gO]; rfl
  · rw [decide_eq_false e, if_neg e, r.gP]; rfl
theorem RealmAt.row (r : RealmAt h p n P O I V C) (f : Nat) : h[famc f p]? = some (100, ints (fam f P O)) := by
  unfold famc fam
  by_cases e : f = 2
  · rw [if_pos e, if_pos e]; exact r.2.2.1
  · rw [if_neg e, if_neg e]; exact r.2.1
theorem RealmAt.count {tb : List (List Int32)} (ht : tb.length = nS) (r : RealmAt h p n P O I V C) {f : Nat} (hf : f < 3) : f_X4_count tb h (ad p) f = some (fam f P O).length := by
  unfold f_X4_count
  rw [r.tag, ob_s, r.codes hf, ob_s, dalen_row ht (r.row f), ob_s]
theorem RealmAt.codeOf {tb : List (List Int32)} (ht : tb.length = nS) (r : RealmAt h p n P O I V C) {f k : Nat} (hf : f < 3) (hl : (fam f P O).length < 2147483648) (hs : sm (fam f P O)) (hk : k < 2147483648) : f_X4_codeOf tb h (ad p) f k = some ((fam f P O).getD k 0) := by
  unfold f_X4_codeOf
  rw [r.tag, ob_s, r.codes hf, ob_s, at_row ht (r.row f) hl hk hs, ob_s]
end RL
/-! the search for a rank, over a list -/
noncomputable def rkb (cs : List Nat) (ih : Nat → Nat → Nat → Option Nat) : Nat → Nat → Nat → Option Nat := fun code last leap => bif wle leap 0 then (bif wlt last 0 then some 4294967295 else (bif !weq (cs.getD last 0) code then some 4294967295 else some last)) else (bif wle cs.length (wadd last leap) then ih code last (wdiv leap 2) else (bif wlt code (cs.getD (wadd last leap) 0) then ih code last (wdiv leap 2) else ih code (wadd last leap) (wdiv leap 2)))
noncomputable def rkl (cs : List Nat) (m : Nat) : Nat → Nat → Nat → Option Nat := @Nat.rec (fun _ => Nat → Nat → Nat → Option Nat) (fun _ _ _ => none) (fun _ ih => rkb cs ih) m
noncomputable def rkf (cs : List Nat) (code : Nat) : Option Nat := rkl cs dF code 4294967295 512
theorem rkl_s (cs : List Nat) (m : Nat) : rkl cs (m + 1) = rkb cs (rkl cs m) := rfl
theorem wlt_pos {a : Nat} (h : wlt a 0 = false) : a % 4294967296 < 2147483648 := by
  unfold wlt at h
  have h1 : ¬ (Nat.ble (Nat.succ (Nat.mod (Nat.add a 2147483648) 4294967296)) (Nat.mod (Nat.add 0 2147483648) 4294967296) = true) := by rw [h]; simp
  rw [Nat.ble_eq] at h1
  have h2 : ¬ ((a + 2147483648) % 4294967296 + 1 ≤ (0 + 2147483648) % 4294967296) := h1
  omega
theorem wadd_lt (a b : Nat) : wadd a b < 4294967296 := Nat.mod_lt _ (by decide)
theorem wlt_neg_len {a k : Nat} (hk : k < 2147483648) (ha : a < 4294967296) (h : wle k a = false) : wlt a 0 = true ∨ a < k := by
  by_cases hc : wlt a 0 = true
  · exact Or.inl hc
  · refine Or.inr ?_
    have h1 := wlt_pos (by simpa using hc)
    rw [wle_s hk (by omega)] at h
    have := of_decide_eq_false h
    omega
theorem rankOf_lp {tb : List (List Int32)} (ht : tb.length = nS) {h : List kCel} {i : Nat} {cs : List Nat} (hq : h[i]? = some (100, ints cs)) (hl : cs.length < 2147483648) (hs : sm cs) : ∀ (m code last leap : Nat) (r : Nat), last < 4294967296 → rkl cs m code last leap = some r → lp_X4_rankOf tb h m code (ad i) last leap = some r := by
  intro m
  induction m with
  | zero => intro _ _ _ _ _ hr; exact no_none hr
  | succ m ih =>
    intro code last leap r hla hr
    rw [rkl_s] at hr
    rw [lp_X4_rankOf_s0]
    unfold rkb at hr
    unfold lb0_X4_rankOf
    cases h1 : wle leap 0 with
    | true =>
      rw [h1, cond_true] at hr
      rw [cond_true]
      cases h2 : wlt last 0 with
      | true => rw [h2, cond_true] at hr; rw [cond_true]; exact hr
      | false =>
        rw [h2] at hr
        rw [cond_false] at hr ⊢
        have h3 := wlt_pos h2
        rw [at_row ht hq hl (by omega) hs, ob_s]
        exact hr
    | false =>
      rw [h1, cond_false] at hr
      rw [cond_false, dalen_row ht hq, ob_s]
      cases h2 : wle cs.length (wadd last leap) with
      | true =>
        rw [h2, cond_true] at hr
        rw [cond_true, dl_eq]
        exact ih _ _ _ r hla hr
      | false =>
        rw [h2, cond_false] at hr
        rw [cond_false]
        have h3 : f_X5_at tb h (ad i) (wadd last leap) = some (cs.getD (wadd last leap) 0) := by
          rcases wlt_neg_len hl (wadd_lt last leap) h2 with h4 | h4
          · rw [at_neg h4]
            rw [getD_no]
            have h5 : ¬ (wlt (wadd last leap) 0 = false) := by rw [h4]; simp
            have h6 : 2147483648 ≤ wadd last leap := by
              by_cases hc : wadd last leap < 2147483648
              · exact absurd (by rw [wlt_s hc (by decide)]; simp) h5
              · omega
            omega
          · exact at_row ht hq hl (by omega) hs
        rw [h3, ob_s]
        cases h5 : wlt code (cs.getD (wadd last leap) 0) with
        | true =>
          rw [h5, cond_true] at hr
          rw [cond_true, dl_eq]
          exact ih _ _ _ r hla hr
        | false =>
          rw [h5, cond_false] at hr
          rw [cond_false, dl_eq, dl_eq]
          exact ih _ _ _ r (wadd_lt _ _) hr
theorem RealmAt.rankOf {tb : List (List Int32)} (ht : tb.length = nS) {h : List kCel} {p n : Nat} {P O : List Nat} {I V C : Nat → List Nat} (r : RealmAt h p n P O I V C) {f code k : Nat} (hf : f < 3) (hl : (fam f P O).length < 2147483648) (hs : sm (fam f P O)) (hk : rkf (fam f P O) code = some k) : f_X4_rankOf tb h (ad p) f code = some k := by
  unfold f_X4_rankOf
  rw [r.tag, ob_s, r.codes hf, ob_s]
  exact rankOf_lp ht (r.row f) hl hs _ _ _ _ _ (by decide) hk
