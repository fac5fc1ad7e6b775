/-! ===== the loops of Realm.of, as functions of lists ===== -/
noncomputable def lpPb (n : Nat) (ih : Nat → Nat → List Nat → Option (List Nat)) : Nat → Nat → List Nat → Option (List Nat) := fun found code P => bif wle (wshl 1 (wmul 2 n)) code then some P else ob (f_X3_isPath code n) fun x => bif weq x 0 then ih found (wadd code 1) P else ih (wadd found 1) (wadd code 1) (P.set found code)
noncomputable def lpP (n m : Nat) : Nat → Nat → List Nat → Option (List Nat) := @Nat.rec (fun _ => Nat → Nat → List Nat → Option (List Nat)) (fun _ _ _ => none) (fun _ ih => lpPb n ih) m
noncomputable def lpOb (n : Nat) (ih : Nat → List Nat → Option (List Nat)) : Nat → List Nat → Option (List Nat) := fun rank O => bif wle O.length rank then some O else ob (f_X2_ofRank rank n) fun v => ih (wadd rank 1) (O.set rank v)
noncomputable def lpO (n m : Nat) : Nat → List Nat → Option (List Nat) := @Nat.rec (fun _ => Nat → List Nat → Option (List Nat)) (fun _ _ => none) (fun _ ih => lpOb n ih) m
noncomputable def lpIb (cf ct : List Nat) (step n : Nat) (ih : Nat → List Nat → Option (List Nat)) : Nat → List Nat → Option (List Nat) := fun rank R => bif wle cf.length rank then some R else ob (f_X4_imageCode step (cf.getD rank 0) n) fun ic => ob (rkf ct ic) fun r => ih (wadd rank 1) (R.set rank r)
noncomputable def lpI (cf ct : List Nat) (step n m : Nat) : Nat → List Nat → Option (List Nat) := @Nat.rec (fun _ => Nat → List Nat → Option (List Nat)) (fun _ _ => none) (fun _ ih => lpIb cf ct step n ih) m
noncomputable def lpVb (cf : List Nat) (f w n : Nat) (ih : Nat → List Nat → List Nat → Option (List Nat × List Nat)) : Nat → List Nat → List Nat → Option (List Nat × List Nat) := fun rank R K => bif wle cf.length rank then some (R, K) else ob (f_X4_valueByCode f w (cf.getD rank 0) n) fun v => bif Nat.blt v K.length then ih (wadd rank 1) (R.set rank v) (K.set v (wadd (K.getD v 0) 1)) else none
noncomputable def lpV (cf : List Nat) (f w n m : Nat) : Nat → List Nat → List Nat → Option (List Nat × List Nat) := @Nat.rec (fun _ => Nat → List Nat → List Nat → Option (List Nat × List Nat)) (fun _ _ _ => none) (fun _ ih => lpVb cf f w n ih) m
section RL2
variable {tb : List (List Int32)} {p n : Nat} {P O : List Nat} {I V C : Nat → List Nat} {c : Nat × Nat}
theorem listPaths_lp (ht : tb.length = nS) (hn : n < 4294967296) (hK : wshl 1 (wmul 2 n) ≤ 4096) : ∀ (m found code : Nat) (P P' : List Nat) (h : List kCel), found ≤ code → code ≤ 4096 → P.length < 2147483648 → RealmAt h p n P O I V C → lpP n m found code P = some P' → ∃ h', lp_X4_listPaths tb m (ad p) found code (h, c) = some (.inl (), (h', c)) ∧ RealmAt h' p n P' O I V C ∧ fr p (p + 41) h h' := by
  intro m
  induction m with
  | zero => intro _ _ _ _ _ _ _ _ _ hr; exact no_none hr
  | succ m ih =>
    intro found code P P' h h1 h2 h3 r hr
    rw [show lpP n (m + 1) = lpPb n (lpP n m) from rfl] at hr
    rw [lp_X4_listPaths_s0]
    unfold lpPb at hr
    unfold lb0_X4_listPaths
    dsimp only
    rw [r.size hn, ob_s, ob_s]
    cases hc : wle (wshl 1 (wmul 2 n)) code with
    | true =>
      rw [hc, cond_true] at hr
      cases hr
      rw [cond_true]
      exact ⟨h, rfl, r, fr.rf _ _ _⟩
    | false =>
      rw [hc, cond_false] at hr
      rw [cond_false]
      obtain ⟨x, hx, hr⟩ := ob_some hr
      rw [hx, ob_s]
      rw [wle_s (by omega) (by omega)] at hc
      have hc := of_decide_eq_false hc
      cases hz : weq x 0 with
      | true =>
        rw [hz, cond_true] at hr
        rw [cond_true, dl_eq]
        exact ih _ _ P P' h (by rw [wadd_s (by omega)]; omega) (by rw [wadd_s (by omega)]; omega) h3 r hr
      | false =>
        rw [hz, cond_false] at hr
        rw [cond_false, r.gP, ob_s, put_row' ht r.2.1 (by omega) h3, obW_l, dl_eq, dl_eq]
        obtain ⟨h', e1, e2, e3⟩ := ih _ _ (P.set found code) P' (h.set (p + 1) (100, ints (P.set found code))) (by rw [wadd_s (by omega), wadd_s (by omega)]; omega) (by rw [wadd_s (by omega)]; omega) (by rw [List.length_set]; exact h3) (r.setP _) hr
        exact ⟨h', e1, e2, (fr.set (by omega) (by omega)).tr e3⟩
theorem listPaths_ok (ht : tb.length = nS) (hn : n < 4294967296) (hK : wshl 1 (wmul 2 n) ≤ 4096) {h : List kCel} {P' : List Nat} (hP : P.length < 2147483648) (r : RealmAt h p n P O I V C) (hr : lpP n dF 0 0 P = some P') : ∃ h', f_X4_listPaths tb (ad p) (h, c) = some (.inl (), (h', c)) ∧ RealmAt h' p n P' O I V C ∧ fr p (p + 41) h h' := by
  obtain ⟨h', e1, e2, e3⟩ := listPaths_lp (c := c) ht hn hK dF 0 0 P P' h (Nat.le_refl _) (by omega) hP r hr
  refine ⟨h', ?_, e2, e3⟩
  unfold f_X4_listPaths
  rw [e1]
  exact dchk_same
theorem listOrders_lp (ht : tb.length = nS) (hn : n < 4294967296) : ∀ (m rank : Nat) (O O' : List Nat) (h : List kCel), rank ≤ 1000000 → O.length ≤ 1000 → RealmAt h p n P O I V C → lpO n m rank O = some O' → ∃ h', lp_X4_listOrders tb m (ad p) rank (h, c) = some (.inl (), (h', c)) ∧ RealmAt h' p n P O' I V C ∧ fr p (p + 41) h h' := by
  intro m
  induction m with
  | zero => intro _ _ _ _ _ _ _ hr; exact no_none hr
  | succ m ih =>
    intro rank O O' h h2 h3 r hr
    rw [show lpO n (m + 1) = lpOb n (lpO n m) from rfl] at hr
    rw [lp_X4_listOrders_s0]
    unfold lpOb at hr
    unfold lb0_X4_listOrders
    dsimp only
    rw [r.gO, ob_s, dalen_row ht r.2.2.1, ob_s]
    cases hc : wle O.length rank with
    | true =>
      rw [hc, cond_true] at hr
      cases hr
      rw [cond_true]
      exact ⟨h, rfl, r, fr.rf _ _ _⟩
    | false =>
      rw [hc, cond_false] at hr
      rw [cond_false, ob_s, r.size hn, ob_s]
      obtain ⟨x, hx, hr⟩ := ob_some hr
      rw [hx, ob_s]
      rw [wle_s (by omega) (by omega)] at hc
      have hc := of_decide_eq_false hc
      rw [put_row' ht r.2.2.1 (by omega) (by omega), obW_l, dl_eq]
      obtain ⟨h', e1, e2, e3⟩ := ih _ (O.set rank x) O' (h.set (p + 2) (100, ints (O.set rank x))) (by rw [wadd_s (by omega)]; omega) (by rw [List.length_set]; exact h3) (r.setO _) hr
      exact ⟨h', e1, e2, (fr.set (by omega) (by omega)).tr e3⟩
theorem listOrders_ok (ht : tb.length = nS) (hn : n < 4294967296) {h : List kCel} {O' : List Nat} (hO : O.length ≤ 1000) (r : RealmAt h p n P O I V C) (hr : lpO n dF 0 O = some O') : ∃ h', f_X4_listOrders tb (ad p) (h, c) = some (.inl (), (h', c)) ∧ RealmAt h' p n P O' I V C ∧ fr p (p + 41) h h' := by
  obtain ⟨h', e1, e2, e3⟩ := listOrders_lp (c := c) ht hn dF 0 O O' h (by omega) hO r hr
  refine ⟨h', ?_, e2, e3⟩
  unfold f_X4_listOrders
  rw [e1]
  exact dchk_same
theorem fam_set {f : Nat} : True := trivial
theorem listImages_lp (ht : tb.length = nS) (hn : n < 4294967296) {step f t : Nat} (hs : step < 11) (hf : f < 3) (htt : t < 3) (hl1 : (fam f P O).length ≤ 1000) (hs1 : sm (fam f P O)) (hl2 : (fam t P O).length ≤ 1000) (hs2 : sm (fam t P O)) : ∀ (m rank : Nat) (I : Nat → List Nat) (R' : List Nat) (h : List kCel), rank ≤ 1000 → (fam f P O).length ≤ (I step).length → (I step).length ≤ 1000 → RealmAt h p n P O I V C → lpI (fam f P O) (fam t P O) step n m rank (I step) = some R' → ∃ h', lp_X4_listImages tb m (ad p) step f t rank (h, c) = some (.inl (), (h', c)) ∧ RealmAt h' p n P O (up I step R') V C ∧ fr p (p + 41) h h' := by
  intro m
  induction m with
  | zero => intro _ _ _ _ _ _ _ _ hr; exact no_none hr
  | succ m ih =>
    intro rank I R' h h2 h3 h4 r hr
    rw [show lpI (fam f P O) (fam t P O) step n (m + 1) = lpIb (fam f P O) (fam t P O) step n (lpI (fam f P O) (fam t P O) step n m) from rfl] at hr
    rw [lp_X4_listImages_s0]
    unfold lpIb at hr
    unfold lb0_X4_listImages
    dsimp only
    rw [r.tag, ob_s, r.count ht hf, ob_s]
    cases hc : wle (fam f P O).length rank with
    | true =>
      rw [hc, cond_true] at hr
      cases hr
      rw [cond_true]
      refine ⟨h, rfl, ?_, fr.rf _ _ _⟩
      have e : up I step (I step) = I := funext fun j => by
        by_cases e : j = step
        · subst e; rw [up_s]
        · rw [up_n _ _ e]
      rw [e]
      exact r
    | false =>
      rw [hc, cond_false] at hr
      rw [cond_false, r.gI, ob_s, ob_s, r.codeOf ht hf (by omega) hs1 (by omega), ob_s, r.size hn, ob_s]
      obtain ⟨x, hx, hr⟩ := ob_some hr
      obtain ⟨k, hk, hr⟩ := ob_some hr
      rw [hx, ob_s, ob_s, r.rankOf ht htt (by omega) hs2 hk, ob_s]
      rw [wle_s (by omega) (by omega)] at hc
      have hc := of_decide_eq_false hc
      rw [put_tab ht r.2.2.2.1 (by rw [rng_len]; omega) (rng_at hs) (r.2.2.2.2.1 step hs) (by omega) (by omega), obW_l, dl_eq]
      obtain ⟨h', e1, e2, e3⟩ := ih (wadd rank 1) (up I step ((I step).set rank k)) R' (h.set (p + 4 + step) (100, ints ((I step).set rank k))) (by rw [wadd_s (by omega)]; omega) (by rw [up_s, List.length_set]; exact h3) (by rw [up_s, List.length_set]; exact h4) (r.setI hs _) (by rw [up_s]; exact hr)
      refine ⟨h', e1, ?_, (fr.set (by omega) (by omega)).tr e3⟩
      have e : up (up I step ((I step).set rank k)) step R' = up I step R' := funext fun j => by
        by_cases e : j = step
        · subst e; rw [up_s, up_s]
        · rw [up_n _ _ e, up_n _ _ e, up_n _ _ e]
      rw [e] at e2
      exact e2
theorem up_same {τ : Type} (f : Nat → τ) (k : Nat) : up f k (f k) = f := funext fun j => by
  by_cases e : j = k
  · subst e; rw [up_s]
  · rw [up_n _ _ e]
theorem up_twice {τ : Type} (f : Nat → τ) (k : Nat) (x y : τ) : up (up f k x) k y = up f k y := funext fun j => by
  by_cases e : j = k
  · subst e; rw [up_s, up_s]
  · rw [up_n _ _ e, up_n _ _ e, up_n _ _ e]
theorem listImages_ok (ht : tb.length = nS) (hn : n < 4294967296) {step f t : Nat} (hs : step < 11) (d0 : dtab 0 step = some f) (d1 : dtab 1 step = some t) (hf : f < 3) (htt : t < 3) (hl1 : (fam f P O).length ≤ 1000) (hs1 : sm (fam f P O)) (hl2 : (fam t P O).length ≤ 1000) (hs2 : sm (fam t P O)) {R' : List Nat} {h : List kCel} (h3 : (fam f P O).length ≤ (I step).length) (h4 : (I step).length ≤ 1000) (r : RealmAt h p n P O I V C) (hr : lpI (fam f P O) (fam t P O) step n dF 0 (I step) = some R') : ∃ h', f_X4_listImages tb (ad p) step (h, c) = some (.inl (), (h', c)) ∧ RealmAt h' p n P O (up I step R') V C ∧ fr p (p + 41) h h' := by
  obtain ⟨h', e1, e2, e3⟩ := listImages_lp (c := c) ht hn hs hf htt hl1 hs1 hl2 hs2 dF 0 I R' h (by omega) h3 h4 r hr
  refine ⟨h', ?_, e2, e3⟩
  unfold f_X4_listImages
  rw [d0, ob_s, d1, ob_s, e1]
  exact dchk_same
theorem listValues_lp (ht : tb.length = nS) (hn : n < 4294967296) {f w l : Nat} (hl : l < 12) (hf : f < 3) (hl1 : (fam f P O).length ≤ 1000) (hs1 : sm (fam f P O)) : ∀ (m rank : Nat) (V C : Nat → List Nat) (R' K' : List Nat) (h : List kCel), rank ≤ 1000 → (fam f P O).length ≤ (V l).length → (V l).length ≤ 1000 → (C l).length ≤ 1000 → sm (C l) → RealmAt h p n P O I V C → lpV (fam f P O) f w n m rank (V l) (C l) = some (R', K') → ∃ h', lp_X4_listValues tb m (ad p) f w l rank (h, c) = some (.inl (), (h', c)) ∧ RealmAt h' p n P O I (up V l R') (up C l K') ∧ fr p (p + 41) h h' := by
  intro m
  induction m with
  | zero => intro _ _ _ _ _ _ _ _ _ _ _ _ hr; exact no_none hr
  | succ m ih =>
    intro rank V C R' K' h h2 h3 h4 h5 h6 r hr
    rw [show lpV (fam f P O) f w n (m + 1) = lpVb (fam f P O) f w n (lpV (fam f P O) f w n m) from rfl] at hr
    rw [lp_X4_listValues_s0]
    unfold lpVb at hr
    unfold lb0_X4_listValues
    dsimp only
    rw [r.tag, ob_s, r.count ht hf, ob_s]
    cases hc : wle (fam f P O).length rank with
    | true =>
      rw [hc, cond_true] at hr
      cases hr
      rw [cond_true]
      refine ⟨h, rfl, ?_, fr.rf _ _ _⟩
      rw [up_same, up_same]
      exact r
    | false =>
      rw [hc, cond_false] at hr
      rw [cond_false, ob_s, r.codeOf ht hf (by omega) hs1 (by omega), ob_s, r.size hn, ob_s]
      obtain ⟨v, hv, hr⟩ := ob_some hr
      rw [hv, ob_s, r.gV, ob_s]
      rw [wle_s (by omega) (by omega)] at hc
      have hc := of_decide_eq_false hc
      cases hb : Nat.blt v (C l).length with
      | false => rw [hb] at hr; cases hr
      | true =>
        rw [hb, cond_true] at hr
        have hvl : v < (C l).length := Nat.le_of_ble_eq_true hb
        have hV := r.2.2.2.2.2.2.1
        have hC := r.2.2.2.2.2.2.2.2
        rw [put_tab ht r.2.2.2.2.2.1 (by rw [rng_len]; omega) (rng_at hl) (hV l hl) (by omega) (by omega), obW_l]
        dsimp only
        have r1 := r.setV hl ((V l).set rank v)
        rw [r1.gC, ob_s, ob_s, at_tab ht r1.2.2.2.2.2.2.2.1 (by rw [rng_len]; omega) (rng_at hl) (r1.2.2.2.2.2.2.2.2 l hl) (by omega) (by omega) h6, ob_s]
        rw [put_tab ht r1.2.2.2.2.2.2.2.1 (by rw [rng_len]; omega) (rng_at hl) (r1.2.2.2.2.2.2.2.2 l hl) (by omega) hvl, obW_l, dl_eq]
        obtain ⟨h', e1, e2, e3⟩ := ih (wadd rank 1) (up V l ((V l).set rank v)) (up C l ((C l).set v (wadd ((C l).getD v 0) 1))) R' K' _ (by rw [wadd_s (by omega)]; omega) (by rw [up_s, List.length_set]; exact h3) (by rw [up_s, List.length_set]; exact h4) (by rw [up_s, List.length_set]; exact h5) (by rw [up_s]; exact sm_set h6 _ (wadd_lt _ _)) (r1.setC hl _) (by rw [up_s, up_s]; exact hr)
        refine ⟨h', e1, ?_, ((fr.set (by omega) (by omega)).tr (fr.set (by omega) (by omega))).tr e3⟩
        rw [up_twice, up_twice] at e2
        exact e2
theorem listValues_ok (ht : tb.length = nS) (hn : n < 4294967296) {f w : Nat} (hw : w < 4) (hf : f < 3) (hl1 : (fam f P O).length ≤ 1000) (hs1 : sm (fam f P O)) {R' K' : List Nat} {h : List kCel} (h3 : (fam f P O).length ≤ (V (f * 4 + w)).length) (h4 : (V (f * 4 + w)).length ≤ 1000) (h5 : (C (f * 4 + w)).length ≤ 1000) (h6 : sm (C (f * 4 + w))) (r : RealmAt h p n P O I V C) (hr : lpV (fam f P O) f w n dF 0 (V (f * 4 + w)) (C (f * 4 + w)) = some (R', K')) : ∃ h', f_X4_listValues tb (ad p) f w (h, c) = some (.inl (), (h', c)) ∧ RealmAt h' p n P O I (up V (f * 4 + w) R') (up C (f * 4 + w) K') ∧ fr p (p + 41) h h' := by
  obtain ⟨h', e1, e2, e3⟩ := listValues_lp (c := c) (w := w) ht hn (l := f * 4 + w) (by omega) hf hl1 hs1 dF 0 V C R' K' h (by omega) h3 h4 h5 h6 r hr
  refine ⟨h', ?_, e2, e3⟩
  unfold f_X4_listValues
  rw [dl_eq, wmul_s (by omega), wadd_s (by omega), e1]
  exact dchk_same
end RL2
