/-! ===== what is asked of objects and of images ===== -/
section QA
variable {tb : List (List Int32)} {h : List kCel} {W : Wd} {g : Gh} {c : Nat × Nat} {hs : kHS}
theorem needFamily_ok {f : Nat} (hf : f < 3) : f_X9_needFamily f hs = some (.inl (), hs) := by
  unfold f_X9_needFamily
  rw [wlt_s (by omega) (by decide), decide_eq_false (by omega), cond_false, wlt_s (by omega) (by decide), decide_eq_true hf, cond_true]
  exact dchk_same
theorem needStatistic_ok {f : Nat} (hf : f < 4) : f_X9_needStatistic f hs = some (.inl (), hs) := by
  unfold f_X9_needStatistic
  rw [wlt_s (by omega) (by decide), decide_eq_false (by omega), cond_false, wlt_s (by omega) (by decide), decide_eq_true hf, cond_true]
  exact dchk_same
theorem needStep_ok {f : Nat} (hf : f < 11) : f_X9_needStep f hs = some (.inl (), hs) := by
  unfold f_X9_needStep
  rw [wlt_s (by omega) (by decide), decide_eq_false (by omega), cond_false, wlt_s (by omega) (by decide), decide_eq_true hf, cond_true]
  exact dchk_same
theorem WC.c120 (w : WC h W g) {f : Nat} (hf : f < 3) : cnt W.n f ≤ 120 ∧ 1 ≤ cnt W.n f := cnt_720 w.n5.1 w.n5.2 hf
theorem WC.cs_lt (w : WC h W g) (f k : Nat) : (cds W.n f).getD k 0 < 1000000 := (cds_small w.n5.1 w.n5.2 f).get k
theorem WC.needRank (ht : tb.length = nS) (w : WC h W g) {f k : Nat} (hf : f < 3) (hk : k < cnt W.n f) : f_X9_needRank tb (ad 0) f k (h, c) = some (.inl (), (h, c)) := by
  have hc := (w.c120 hf).1
  unfold f_X9_needRank
  rw [needFamily_ok hf, obW_l, wlt_s (by omega) (by decide), decide_eq_false (by omega), cond_false, w.g5, ob_s, w.Rl.1.tag, ob_s, w.Rl.1.count ht hf, ob_s, wlt_s (by omega) (by omega), decide_eq_true hk, cond_true]
  exact dchk_same
theorem objects_ok (ht : tb.length = nS) (w : World hs W) {f : Nat} (hf : f < 3) : Ans (f_X9_objects tb (ad 0) f hs) (cnt W.n f) W := by
  obtain ⟨g, wc, hc⟩ := w
  refine ⟨hs, ?_, g, wc, hc⟩
  unfold f_X9_objects
  rw [needFamily_ok hf, obW_l, wc.g5, ob_s, wc.Rl.1.tag, ob_s, wc.Rl.1.count ht hf, ob_s]
  exact dchk_same
theorem unrank_ok (ht : tb.length = nS) (w : World hs W) {f k : Nat} (hf : f < 3) (hk : k < cnt W.n f) : Ans (f_X9_unrank tb (ad 0) f k hs) ((cds W.n f).getD k 0) W := by
  obtain ⟨g, wc, hc⟩ := w
  have h9 := (wc.c120 hf).1
  refine ⟨hs, ?_, g, wc, hc⟩
  obtain ⟨h, c⟩ := hs
  unfold f_X9_unrank
  rw [wc.tag, ob_s, wc.needRank ht hf hk, obW_l, wc.g5, ob_s, wc.Rl.1.tag, ob_s, wc.Rl.1.codeOf ht hf (by omega), ob_s]
  exact dchk_same
theorem WC.rankOf (ht : tb.length = nS) (w : WC h W g) {f k : Nat} (hf : f < 3) (hk : k < cnt W.n f) : f_X4_rankOf tb h (ad g.p) f ((cds W.n f).getD k 0) = some k := by
  have z := cds_small w.n5.1 w.n5.2 f
  exact w.Rl.1.1.rankOf ht hf (Nat.lt_of_le_of_lt z.1 (by decide)) z.sm (rk_ok w.n5.1 w.n5.2 hf hk)
theorem rank_ok (ht : tb.length = nS) (w : World hs W) {f k : Nat} (hf : f < 3) (hk : k < cnt W.n f) : Ans (f_X9_rank tb (ad 0) f ((cds W.n f).getD k 0) hs) k W := by
  obtain ⟨g, wc, hc⟩ := w
  refine ⟨hs, ?_, g, wc, hc⟩
  unfold f_X9_rank
  rw [needFamily_ok hf, obW_l, wc.g5, ob_s, wc.Rl.1.tag, ob_s, wc.rankOf ht hf hk, ob_s]
  exact dchk_same
theorem statistic_ok (ht : tb.length = nS) (w : World hs W) {f a k : Nat} (hf : f < 3) (ha : a < 4) (hk : k < cnt W.n f) : Ans (f_X9_statistic tb (ad 0) f a k hs) (val W.n f a k) W := by
  obtain ⟨g, wc, hc⟩ := w
  have h9 := (wc.c120 hf).1
  refine ⟨hs, ?_, g, wc, hc⟩
  obtain ⟨h, c⟩ := hs
  unfold f_X9_statistic
  rw [wc.tag, ob_s, wc.needRank ht hf hk, obW_l, needStatistic_ok ha, obW_l, wc.g5, ob_s, wc.Rl.1.tag, ob_s, wc.Rl.1.valueOf ht hf ha (by omega), ob_s]
  exact dchk_same
theorem val_lt {n : Nat} (h1 : 1 ≤ n) (h2 : n ≤ 5) {f a : Nat} (hf : f < 3) (ha : a < 4) (k : Nat) : val n f a k < 1000000 := ((tabs_s h1 h2).2.2.1 (f * 4 + a) (by omega)).get k
theorem nof_lt {n : Nat} (h1 : 1 ≤ n) (h2 : n ≤ 5) {f a : Nat} (hf : f < 3) (ha : a < 4) (k : Nat) : nof n f a k < 1000000 := ((tabs_s h1 h2).2.2.2 (f * 4 + a) (by omega)).1.get k
theorem sv_sorted (ht : tb.length = nS) (w : WC h W g) {t : Nat} (ht6 : t ≤ 6) : ∀ (j m k f : Nat), k + j = cnt W.n 2 → f ≤ k → lp_X9_sorted tb (m + j + 1) (ad 0) t f k (h, c) = some (.inl (srt W.n t j k f), (h, c)) := by
  have h9 := (w.c120 (f := 2) (by decide)).1
  intro j
  induction j with
  | zero =>
    intro m k f hk hf
    rw [show m + 0 + 1 = m + 1 from rfl, lp_X9_sorted_s0]
    unfold lb0_X9_sorted
    rw [w.g5, ob_s, w.Rl.1.tag, ob_s, w.Rl.1.count ht (by decide), ob_s, wle_s (by omega) (by omega), decide_eq_true (by omega), cond_true]
    rfl
  | succ j ih =>
    intro m k f hk hf
    rw [show m + (j + 1) + 1 = (m + j + 1) + 1 from rfl, lp_X9_sorted_s0]
    unfold lb0_X9_sorted
    have e := w.Rl.1.inOrder ht t (dF - t - 1) 0 k t (by omega) (by omega) (by omega)
    rw [show dF - t - 1 + t + 1 = dF by unfold dF; omega] at e
    rw [w.g5, ob_s, w.Rl.1.tag, ob_s, w.Rl.1.count ht (by decide), ob_s, wle_s (by omega) (by omega), decide_eq_false (by omega), cond_false, ob_s, w.Rl.1.tag, ob_s, show f_X4_isInOrderBehind tb h (ad g.p) k t = _ from e, ob_s, srt_s]
    cases hb : Nat.beq (thr W.n (List.replicate t 10) k) 0 with
    | true => rw [cond_true, show weq 1 0 = false from rfl, cond_false, cond_true, dl_eq, dl_eq, wadd_s (by omega), wadd_s (by omega), ih m _ _ (by omega) (by omega)]
    | false => rw [cond_false, show weq 0 0 = true from rfl, cond_true, cond_false, dl_eq, wadd_s (by omega), ih m _ _ (by omega) (by omega)]
theorem sorted_ok (ht : tb.length = nS) (w : World hs W) {t : Nat} (ht6 : t ≤ 6) : Ans (f_X9_sorted tb (ad 0) t hs) (stN W.n t) W := by
  obtain ⟨g, wc, hc⟩ := w
  refine ⟨hs, ?_, g, wc, hc⟩
  obtain ⟨h, c⟩ := hs
  have h9 := (wc.c120 (f := 2) (by decide)).1
  have e := sv_sorted (c := c) ht wc ht6 (cnt W.n 2) (dF - cnt W.n 2 - 1) 0 0 (by omega) (Nat.le_refl _)
  rw [show dF - cnt W.n 2 - 1 + cnt W.n 2 + 1 = dF by unfold dF; omega] at e
  unfold f_X9_sorted
  rw [wlt_s (by omega) (by decide), decide_eq_false (by omega), cond_false, wle_s (by omega) (by decide), decide_eq_true ht6, cond_true, e]
  exact dchk_same
/-! images -/
theorem WC.chart (w : WC h W g) {j : Nat} (hj : j < W.cs.length) : ∃ cl sv d u r q, ChartAt h (g.ci j) (W.sg j) cl sv d u r q := by
  obtain ⟨_, _, _, sv, d, u, r, q, a, _⟩ := w.ch j hj
  exact ⟨_, sv, d, u, r, q, a⟩
theorem WC.th (w : WC h W g) {j : Nat} (hj : j < W.cs.length) {k : Nat} (hk : k < cnt W.n (frm (W.sg j))) : thr W.n (W.sg j) k < cnt W.n (tto (W.sg j)) := (w.word hj).into w.n5.1 w.n5.2 hk
theorem image_ok (ht : tb.length = nS) (w : World hs W) {j k : Nat} (hj : j < W.cs.length) (hk : k < cnt W.n (frm (W.sg j))) : Ans (f_X9_image tb (ad 0) j k hs) (thr W.n (W.sg j) k) W := by
  obtain ⟨g, wc, hc⟩ := w
  have h9 := (wc.c120 (frm_lt (W.sg j))).1
  refine ⟨hs, ?_, g, wc, hc⟩
  obtain ⟨h, c⟩ := hs
  obtain ⟨cl, sv, d, u, r, q, a⟩ := wc.chart hj
  unfold f_X9_image
  rw [wc.tag, ob_s, wc.chartAt ht hj, obW_l, a.from_, ob_s, wc.tag, ob_s, wc.needRank ht (frm_lt _) hk, obW_l, wc.g5, ob_s, wc.Rl.1.tag, ob_s, a.thru ht wc.Rl.1 (by omega), ob_s]
  exact dchk_same
theorem sv_source (ht : tb.length = nS) (w : WC h W g) {j y : Nat} (hj : j < W.cs.length) (hy : y < 1000000) : ∀ (l m k : Nat), k + l = cnt W.n (frm (W.sg j)) → lp_X9_source tb (m + l + 1) (ad 0) y (ad (g.ci j)) k (h, c) = some (.inl (fsr W.n (W.sg j) y l k), (h, c)) := by
  have h9 := (w.c120 (frm_lt (W.sg j))).1
  obtain ⟨cl, sv, d, u, r, q, a⟩ := w.chart hj
  intro l
  induction l with
  | zero =>
    intro m k hk
    rw [show m + 0 + 1 = m + 1 from rfl, lp_X9_source_s0]
    unfold lb0_X9_source
    rw [w.g5, ob_s, a.from_, ob_s, w.Rl.1.tag, ob_s, w.Rl.1.count ht (frm_lt _), ob_s, wle_s (by omega) (by omega), decide_eq_true (by omega), cond_true]
    rfl
  | succ l ih =>
    intro m k hk
    have h8 := (w.c120 (tto_lt (W.sg j))).1
    have h7 := w.th hj (k := k) (by omega)
    rw [show m + (l + 1) + 1 = (m + l + 1) + 1 from rfl, lp_X9_source_s0]
    unfold lb0_X9_source
    rw [w.g5, ob_s, a.from_, ob_s, w.Rl.1.tag, ob_s, w.Rl.1.count ht (frm_lt _), ob_s, wle_s (by omega) (by omega), decide_eq_false (by omega), cond_false, ob_s, w.Rl.1.tag, ob_s, a.thru ht w.Rl.1 (by omega), ob_s, weq_s (by omega) (by omega), fsr_s]
    cases hb : Nat.beq (thr W.n (W.sg j) k) y with
    | true => rw [decide_eq_true (Nat.eq_of_beq_eq_true hb), Bool.not_true, cond_false, cond_true]
    | false => rw [decide_eq_false (fun e => by rw [e, Nat.beq_refl] at hb; cases hb), Bool.not_false, cond_true, cond_false, dl_eq, wadd_s (by omega), ih m _ (by omega)]
theorem source_ok (ht : tb.length = nS) (w : World hs W) {j y : Nat} (hj : j < W.cs.length) (hy : y < cnt W.n (tto (W.sg j))) : Ans (f_X9_source tb (ad 0) j y hs) (fsr W.n (W.sg j) y (cnt W.n (frm (W.sg j))) 0) W := by
  obtain ⟨g, wc, hc⟩ := w
  have h9 := (wc.c120 (frm_lt (W.sg j))).1
  have h8 := (wc.c120 (tto_lt (W.sg j))).1
  refine ⟨hs, ?_, g, wc, hc⟩
  obtain ⟨h, c⟩ := hs
  obtain ⟨cl, sv, d, u, r, q, a⟩ := wc.chart hj
  have e := sv_source (c := c) ht wc hj (y := y) (by omega) (cnt W.n (frm (W.sg j))) (dF - cnt W.n (frm (W.sg j)) - 1) 0 (by omega)
  rw [show dF - cnt W.n (frm (W.sg j)) - 1 + cnt W.n (frm (W.sg j)) + 1 = dF by unfold dF; omega] at e
  unfold f_X9_source
  rw [wc.tag, ob_s, wc.chartAt ht hj, obW_l, a.to_, ob_s, wc.tag, ob_s, wc.needRank ht (tto_lt _) hy, obW_l, e]
  exact dchk_same
theorem sv_against (ht : tb.length = nS) (w : WC h W g) {j a b : Nat} (hj : j < W.cs.length) (ha : a < 4) (hb : b < 4) : ∀ (l m k : Nat), k + l = cnt W.n (frm (W.sg j)) → lp_X9_firstAgainst tb h (m + l + 1) (ad 0) (ad (g.ci j)) a b k = some (fag W.n (W.sg j) a b l k) := by
  have h9 := (w.c120 (frm_lt (W.sg j))).1
  obtain ⟨cl, sv, d, u, r, q, z⟩ := w.chart hj
  intro l
  induction l with
  | zero =>
    intro m k hk
    rw [show m + 0 + 1 = m + 1 from rfl, lp_X9_firstAgainst_s0]
    unfold lb0_X9_firstAgainst
    rw [w.g5, ob_s, z.from_, ob_s, w.Rl.1.tag, ob_s, w.Rl.1.count ht (frm_lt _), ob_s, wle_s (by omega) (by omega), decide_eq_true (by omega), cond_true]
    rfl
  | succ l ih =>
    intro m k hk
    have h8 := (w.c120 (tto_lt (W.sg j))).1
    have h7 := w.th hj (k := k) (by omega)
    have h6 := val_lt w.n5.1 w.n5.2 (frm_lt (W.sg j)) ha k
    have h5 := val_lt w.n5.1 w.n5.2 (tto_lt (W.sg j)) hb (thr W.n (W.sg j) k)
    rw [show m + (l + 1) + 1 = (m + l + 1) + 1 from rfl, lp_X9_firstAgainst_s0]
    unfold lb0_X9_firstAgainst
    rw [w.g5, ob_s, z.from_, ob_s, w.Rl.1.tag, ob_s, w.Rl.1.count ht (frm_lt _), ob_s, wle_s (by omega) (by omega), decide_eq_false (by omega), cond_false, ob_s, w.Rl.1.tag, ob_s, z.thru ht w.Rl.1 (by omega), ob_s, ob_s, ob_s, w.Rl.1.tag, ob_s, w.Rl.1.valueOf ht (frm_lt _) ha (by omega), ob_s, ob_s, z.to_, ob_s, w.Rl.1.tag, ob_s, w.Rl.1.valueOf ht (tto_lt _) hb (by omega), ob_s, weq_s (by omega) (by omega), fag_s]
    cases hb : Nat.beq (val W.n (frm (W.sg j)) a k) (val W.n (tto (W.sg j)) b (thr W.n (W.sg j) k)) with
    | true => rw [decide_eq_true (Nat.eq_of_beq_eq_true hb), cond_true, cond_true, dl_eq, wadd_s (by omega), ih m _ (by omega)]
    | false => rw [decide_eq_false (fun e => by rw [e, Nat.beq_refl] at hb; cases hb), cond_false, cond_false]
theorem WC.firstAgainst (ht : tb.length = nS) (w : WC h W g) {j a b : Nat} (hj : j < W.cs.length) (ha : a < 4) (hb : b < 4) : f_X9_firstAgainst tb h (ad 0) (ad (g.ci j)) a b = some (agn W.n (W.sg j) a b) := by
  have h9 := (w.c120 (frm_lt (W.sg j))).1
  have e := sv_against ht w hj ha hb (cnt W.n (frm (W.sg j))) (dF - cnt W.n (frm (W.sg j)) - 1) 0 (by omega)
  rw [show dF - cnt W.n (frm (W.sg j)) - 1 + cnt W.n (frm (W.sg j)) + 1 = dF by unfold dF; omega] at e
  exact e
theorem against_ok (ht : tb.length = nS) (w : World hs W) {j a b : Nat} (hj : j < W.cs.length) (ha : a < 4) (hb : b < 4) : Ans (f_X9_against tb (ad 0) j a b hs) (agn W.n (W.sg j) a b) W := by
  obtain ⟨g, wc, hc⟩ := w
  refine ⟨hs, ?_, g, wc, hc⟩
  obtain ⟨h, c⟩ := hs
  unfold f_X9_against
  rw [wc.tag, ob_s, wc.chartAt ht hj, obW_l, needStatistic_ok ha, obW_l, needStatistic_ok hb, obW_l, wc.tag, ob_s, wc.firstAgainst ht hj ha hb, ob_s]
  exact dchk_same
theorem sv_alike (ht : tb.length = nS) (w : WC h W g) {f a f2 b : Nat} (hf : f < 3) (ha : a < 4) (hf2 : f2 < 3) (hb : b < 4) (he : ∀ v, v < 37 → nof W.n f a v = nof W.n f2 b v) : ∀ (l m v : Nat), v + l = 37 → lp_X9_alike tb (m + l + 1) (ad 0) f a f2 b v (h, c) = some (.inl 1, (h, c)) := by
  intro l
  induction l with
  | zero =>
    intro m v hv
    rw [show m + 0 + 1 = m + 1 from rfl, lp_X9_alike_s0]
    unfold lb0_X9_alike
    rw [wlt_s (by omega) (by omega), decide_eq_true (by omega), cond_true]
    rfl
  | succ l ih =>
    intro m v hv
    have h6 := nof_lt w.n5.1 w.n5.2 hf ha v
    rw [show m + (l + 1) + 1 = (m + l + 1) + 1 from rfl, lp_X9_alike_s0]
    unfold lb0_X9_alike
    rw [wlt_s (by omega) (by omega), decide_eq_false (by omega), cond_false, w.g5, ob_s, w.Rl.1.tag, ob_s, w.Rl.1.countOf ht hf ha (by omega), ob_s, ob_s, w.Rl.1.tag, ob_s, w.Rl.1.countOf ht hf2 hb (by omega), ob_s, ← he v (by omega), weq_s (by omega) (by omega), decide_eq_true rfl, cond_true, dl_eq, wadd_s (by omega), ih m _ (by omega)]
theorem alike_1 (ht : tb.length = nS) (w : World hs W) {f a f2 b : Nat} (hf : f < 3) (ha : a < 4) (hf2 : f2 < 3) (hb : b < 4) (he : ∀ v, v < 37 → nof W.n f a v = nof W.n f2 b v) : Ans (f_X9_alike tb (ad 0) f a f2 b hs) 1 W := by
  obtain ⟨g, wc, hc⟩ := w
  refine ⟨hs, ?_, g, wc, hc⟩
  obtain ⟨h, c⟩ := hs
  have e := sv_alike (c := c) ht wc hf ha hf2 hb he 37 (dF - 38) 0 rfl
  unfold f_X9_alike
  rw [needFamily_ok hf, obW_l, needFamily_ok hf2, obW_l, needStatistic_ok ha, obW_l, needStatistic_ok hb, obW_l, show lp_X9_alike tb dF (ad 0) f a f2 b 0 (h, c) = _ from e]
  exact dchk_same
theorem sgn_ok {v : Nat} (hv : v < 1000000) : f_X9_signOf v = some (bif odd v then 1 else 4294967295) := by
  unfold f_X9_signOf odd wand
  have h1 : Nat.land v 1 ≤ 1 := Nat.and_le_right
  rw [weq_s (by omega) (by decide)]
  cases hb : Nat.beq (Nat.land v 1) 0 with
  | true => rw [decide_eq_true (Nat.eq_of_beq_eq_true hb)]; rfl
  | false => rw [decide_eq_false (fun e => by rw [e] at hb; cases hb)]; rfl
theorem WC.paired (ht : tb.length = nS) (w : WC h W g) {j a k : Nat} (hj : j < W.cs.length) (ha : a < 4) (hm : frm (W.sg j) = tto (W.sg j)) (hk : k < cnt W.n (frm (W.sg j))) : f_X9_isPairedOff tb h (ad 0) (ad (g.ci j)) a k = some (bif pof W.n (W.sg j) a k then 1 else 0) := by
  have h9 := (w.c120 (frm_lt (W.sg j))).1
  obtain ⟨cl, sv, d, u, r, q, z⟩ := w.chart hj
  have h7 := w.th hj hk
  rw [← hm] at h7
  have h8 := w.th hj h7
  rw [← hm] at h8
  have h6 := val_lt w.n5.1 w.n5.2 (frm_lt (W.sg j)) ha k
  have h5 := val_lt w.n5.1 w.n5.2 (frm_lt (W.sg j)) ha (thr W.n (W.sg j) k)
  unfold f_X9_isPairedOff pof
  rw [w.g5, ob_s, w.Rl.1.tag, ob_s, z.thru ht w.Rl.1 (by omega), ob_s, weq_s (by omega) (by omega)]
  cases hb : Nat.beq (thr W.n (W.sg j) k) k with
  | true => rw [decide_eq_true (Nat.eq_of_beq_eq_true hb), Bool.not_true, cond_false, cond_true]; rfl
  | false =>
    rw [decide_eq_false (fun e => by rw [e, Nat.beq_refl] at hb; cases hb), Bool.not_false, cond_true, cond_false, z.from_, ob_s, ob_s, w.Rl.1.tag, ob_s, z.thru ht w.Rl.1 (by omega), ob_s, weq_s (by omega) (by omega)]
    cases hc : Nat.beq (thr W.n (W.sg j) (thr W.n (W.sg j) k)) k with
    | false => rw [decide_eq_false (fun e => by rw [e, Nat.beq_refl] at hc; cases hc), Bool.not_false, cond_true, cond_false]; rfl
    | true =>
      rw [decide_eq_true (Nat.eq_of_beq_eq_true hc), Bool.not_true, cond_false, cond_true, ob_s, w.Rl.1.tag, ob_s, w.Rl.1.valueOf ht (frm_lt _) ha (by omega), ob_s, sgn_ok h6, ob_s, ob_s, w.Rl.1.tag, ob_s, w.Rl.1.valueOf ht (frm_lt _) ha (by omega), ob_s, sgn_ok h5, ob_s]
      cases odd (val W.n (frm (W.sg j)) a k) with
      | true =>
        cases odd (val W.n (frm (W.sg j)) a (thr W.n (W.sg j) k)) with
        | true => rfl
        | false => rfl
      | false =>
        cases odd (val W.n (frm (W.sg j)) a (thr W.n (W.sg j) k)) with
        | true => rfl
        | false => rfl
theorem sv_cancels (ht : tb.length = nS) (w : WC h W g) {j a : Nat} (hj : j < W.cs.length) (ha : a < 4) (hm : frm (W.sg j) = tto (W.sg j)) : ∀ (l m k : Nat), k + l = cnt W.n (frm (W.sg j)) → lp_X9_cancels tb (m + l + 1) (ad 0) a (ad (g.ci j)) k (h, c) = some (.inl (canl W.n (W.sg j) a l k), (h, c)) := by
  have h9 := (w.c120 (frm_lt (W.sg j))).1
  obtain ⟨cl, sv, d, u, r, q, z⟩ := w.chart hj
  intro l
  induction l with
  | zero =>
    intro m k hk
    rw [show m + 0 + 1 = m + 1 from rfl, lp_X9_cancels_s0]
    unfold lb0_X9_cancels
    rw [w.g5, ob_s, z.from_, ob_s, w.Rl.1.tag, ob_s, w.Rl.1.count ht (frm_lt _), ob_s, wle_s (by omega) (by omega), decide_eq_true (by omega), cond_true]
    rfl
  | succ l ih =>
    intro m k hk
    rw [show m + (l + 1) + 1 = (m + l + 1) + 1 from rfl, lp_X9_cancels_s0]
    unfold lb0_X9_cancels
    rw [w.g5, ob_s, z.from_, ob_s, w.Rl.1.tag, ob_s, w.Rl.1.count ht (frm_lt _), ob_s, wle_s (by omega) (by omega), decide_eq_false (by omega), cond_false, w.tag, ob_s, w.paired ht hj ha hm (by omega), ob_s, canl_s]
    cases hb : pof W.n (W.sg j) a k with
    | true => rw [cond_true, cond_true, show weq 1 0 = false from rfl, Bool.not_false, cond_true, dl_eq, wadd_s (by omega), ih m _ (by omega)]
    | false => rw [cond_false, cond_false, show weq 0 0 = true from rfl, Bool.not_true, cond_false]; rfl
theorem cancels_ok (ht : tb.length = nS) (w : World hs W) {j a : Nat} (hj : j < W.cs.length) (ha : a < 4) : Ans (f_X9_cancels tb (ad 0) j a hs) (can W.n (W.sg j) a) W := by
  obtain ⟨g, wc, hc⟩ := w
  refine ⟨hs, ?_, g, wc, hc⟩
  obtain ⟨h, c⟩ := hs
  have h9 := (wc.c120 (frm_lt (W.sg j))).1
  obtain ⟨cl, sv, d, u, r, q, z⟩ := wc.chart hj
  unfold f_X9_cancels can
  rw [wc.tag, ob_s, wc.chartAt ht hj, obW_l, needStatistic_ok ha, obW_l, z.tag, ob_s, z.isMove, ob_s]
  cases hb : Nat.beq (frm (W.sg j)) (tto (W.sg j)) with
  | false => rw [cond_false, cond_false, show weq 0 0 = true from rfl, Bool.not_true, cond_false]; exact dchk_same
  | true =>
    have e := sv_cancels (c := c) ht wc hj ha (Nat.eq_of_beq_eq_true hb) (cnt W.n (frm (W.sg j))) (dF - cnt W.n (frm (W.sg j)) - 1) 0 (by omega)
    rw [show dF - cnt W.n (frm (W.sg j)) - 1 + cnt W.n (frm (W.sg j)) + 1 = dF by unfold dF; omega] at e
    rw [cond_true, cond_true, show weq 1 0 = false from rfl, Bool.not_false, cond_true, e]
    exact dchk_same
abbrev Wd.wk (W : Wd) (j : Nat) : Wk := W.ws.getD j wk0
abbrev Wd.kl (W : Wd) (j : Nat) : Kl := W.ks.getD j kl0
theorem World.wk (w : World hs W) {j : Nat} (hj : j < W.ws.length) : (W.wk j).hf < 3 ∧ (W.wk j).hk < cnt W.n (W.wk j).hf ∧ (W.wk j).f < 3 ∧ (W.wk j).k < cnt W.n (W.wk j).f ∧ (W.wk j).b ≤ (W.wk j).t ∧ (W.wk j).t ≤ W.tr ∧ W.tr < 1000000 := by
  obtain ⟨g, wc, _⟩ := w
  obtain ⟨_, _, z⟩ := wc.wk j hj
  have h2 := wc.lens.2.2.2.2.2 _ (List.mem_of_getElem? (show W.ws[j]? = some (W.wk j) by
    show _ = some (W.ws.getD j wk0)
    rw [List.getD_eq_getElem?_getD, List.getElem?_eq_getElem hj]
    rfl))
  exact ⟨z.1, z.2.1, z.2.2.1, z.2.2.2.1, z.2.2.2.2, h2, wc.lens.2.2.2.1⟩
theorem World.kl (w : World hs W) {j : Nat} (hj : j < W.ks.length) : (W.kl j).m < W.cs.length ∧ (W.kl j).w < 4 ∧ (W.kl j).o < 4 ∧ (W.kl j).t < 64 ∧ (W.kl j).r < 64 := by
  obtain ⟨g, wc, _⟩ := w
  exact (wc.kl j hj).2.2
theorem WC.wI (w : WC h W g) {j : Nat} (hj : j < W.ws.length) : h[g.wi j]? = some (wkC (W.wk j)) := (w.wk j hj).2.1
theorem WC.kI (w : WC h W g) {j : Nat} (hj : j < W.ks.length) : h[g.ki j]? = some (klC (W.kl j)) := (w.kl j hj).2.1
theorem ofWalker_0 (ht : tb.length = nS) (w : World hs W) {j : Nat} (hj : j < W.ws.length) : Ans (f_X9_ofWalker tb (ad 0) j 0 hs) (W.wk j).f W := by
  obtain ⟨b1, b2, b3, b4, b5, b6, b7⟩ := w.wk hj
  obtain ⟨g, wc, hc⟩ := w
  refine ⟨hs, ?_, g, wc, hc⟩
  obtain ⟨h, c⟩ := hs
  have c1 := (wc.c120 b1).1
  have c2 := (wc.c120 b3).1
  unfold f_X9_ofWalker
  rw [wc.tag, ob_s, wc.walkerAt ht hj, obW_l, show wlt 0 0 = false from rfl, cond_false, show wlt 0 5 = true from rfl, cond_true, show weq 0 0 = true from rfl, cond_true, dgI_ad (k := 2) (wc.wI hj) rfl (by omega), ob_s]
  exact dchk_same
theorem ofWalker_1 (ht : tb.length = nS) (w : World hs W) {j : Nat} (hj : j < W.ws.length) : Ans (f_X9_ofWalker tb (ad 0) j 1 hs) ((cds W.n (W.wk j).f).getD (W.wk j).k 0) W := by
  obtain ⟨b1, b2, b3, b4, b5, b6, b7⟩ := w.wk hj
  obtain ⟨g, wc, hc⟩ := w
  refine ⟨hs, ?_, g, wc, hc⟩
  obtain ⟨h, c⟩ := hs
  have c1 := (wc.c120 b1).1
  have c2 := (wc.c120 b3).1
  unfold f_X9_ofWalker
  rw [wc.tag, ob_s, wc.walkerAt ht hj, obW_l, show wlt 1 0 = false from rfl, cond_false, show wlt 1 5 = true from rfl, cond_true, show weq 1 0 = false from rfl, cond_false, show weq 1 1 = true from rfl, cond_true, wc.g5, ob_s, dgI_ad (k := 2) (wc.wI hj) rfl (by omega), ob_s, dgI_ad (k := 3) (wc.wI hj) rfl (by omega), ob_s, wc.Rl.1.tag, ob_s, wc.Rl.1.codeOf ht (by omega) (by omega), ob_s]
  exact dchk_same
theorem ofWalker_2 (ht : tb.length = nS) (w : World hs W) {j : Nat} (hj : j < W.ws.length) : Ans (f_X9_ofWalker tb (ad 0) j 2 hs) ((cds W.n (W.wk j).hf).getD (W.wk j).hk 0) W := by
  obtain ⟨b1, b2, b3, b4, b5, b6, b7⟩ := w.wk hj
  obtain ⟨g, wc, hc⟩ := w
  refine ⟨hs, ?_, g, wc, hc⟩
  obtain ⟨h, c⟩ := hs
  have c1 := (wc.c120 b1).1
  have c2 := (wc.c120 b3).1
  unfold f_X9_ofWalker
  rw [wc.tag, ob_s, wc.walkerAt ht hj, obW_l, show wlt 2 0 = false from rfl, cond_false, show wlt 2 5 = true from rfl, cond_true, show weq 2 0 = false from rfl, cond_false, show weq 2 1 = false from rfl, cond_false, show weq 2 2 = true from rfl, cond_true, wc.g5, ob_s, dgI_ad (k := 0) (wc.wI hj) rfl (by omega), ob_s, dgI_ad (k := 1) (wc.wI hj) rfl (by omega), ob_s, wc.Rl.1.tag, ob_s, wc.Rl.1.codeOf ht (by omega) (by omega), ob_s]
  exact dchk_same
theorem ofWalker_3 (ht : tb.length = nS) (w : World hs W) {j : Nat} (hj : j < W.ws.length) : Ans (f_X9_ofWalker tb (ad 0) j 3 hs) (W.wk j).t W := by
  obtain ⟨b1, b2, b3, b4, b5, b6, b7⟩ := w.wk hj
  obtain ⟨g, wc, hc⟩ := w
  refine ⟨hs, ?_, g, wc, hc⟩
  obtain ⟨h, c⟩ := hs
  have c1 := (wc.c120 b1).1
  have c2 := (wc.c120 b3).1
  unfold f_X9_ofWalker
  rw [wc.tag, ob_s, wc.walkerAt ht hj, obW_l, show wlt 3 0 = false from rfl, cond_false, show wlt 3 5 = true from rfl, cond_true, show weq 3 0 = false from rfl, cond_false, show weq 3 1 = false from rfl, cond_false, show weq 3 2 = false from rfl, cond_false, show weq 3 3 = true from rfl, cond_true, dgI_ad (k := 4) (wc.wI hj) rfl (by omega), ob_s]
  exact dchk_same
theorem ofWalker_4 (ht : tb.length = nS) (w : World hs W) {j : Nat} (hj : j < W.ws.length) : Ans (f_X9_ofWalker tb (ad 0) j 4 hs) (W.wk j).b W := by
  obtain ⟨b1, b2, b3, b4, b5, b6, b7⟩ := w.wk hj
  obtain ⟨g, wc, hc⟩ := w
  refine ⟨hs, ?_, g, wc, hc⟩
  obtain ⟨h, c⟩ := hs
  have c1 := (wc.c120 b1).1
  have c2 := (wc.c120 b3).1
  unfold f_X9_ofWalker
  rw [wc.tag, ob_s, wc.walkerAt ht hj, obW_l, show wlt 4 0 = false from rfl, cond_false, show wlt 4 5 = true from rfl, cond_true, show weq 4 0 = false from rfl, cond_false, show weq 4 1 = false from rfl, cond_false, show weq 4 2 = false from rfl, cond_false, show weq 4 3 = false from rfl, cond_false, dgI_ad (k := 5) (wc.wI hj) rfl (by omega), ob_s]
  exact dchk_same
theorem ofClaim_0 (ht : tb.length = nS) (w : World hs W) {j : Nat} (hj : j < W.ks.length) : Ans (f_X9_ofClaim tb (ad 0) j 0 hs) (W.kl j).m W := by
  obtain ⟨b1, b2, b3, b4, b5⟩ := w.kl hj
  obtain ⟨g, wc, hc⟩ := w
  refine ⟨hs, ?_, g, wc, hc⟩
  obtain ⟨h, c⟩ := hs
  have hl := wc.lens
  unfold f_X9_ofClaim
  rw [wc.tag, ob_s, wc.claimAt ht hj, obW_l, show wlt 0 0 = false from rfl, cond_false, show wlt 0 5 = true from rfl, cond_true, show weq 0 0 = true from rfl, cond_true, dgI_ad (k := 0) (wc.kI hj) rfl (by omega), ob_s]
  exact dchk_same
theorem ofClaim_1 (ht : tb.length = nS) (w : World hs W) {j : Nat} (hj : j < W.ks.length) : Ans (f_X9_ofClaim tb (ad 0) j 1 hs) (W.kl j).w W := by
  obtain ⟨b1, b2, b3, b4, b5⟩ := w.kl hj
  obtain ⟨g, wc, hc⟩ := w
  refine ⟨hs, ?_, g, wc, hc⟩
  obtain ⟨h, c⟩ := hs
  have hl := wc.lens
  unfold f_X9_ofClaim
  rw [wc.tag, ob_s, wc.claimAt ht hj, obW_l, show wlt 1 0 = false from rfl, cond_false, show wlt 1 5 = true from rfl, cond_true, show weq 1 0 = false from rfl, cond_false, show weq 1 1 = true from rfl, cond_true, dgI_ad (k := 1) (wc.kI hj) rfl (by omega), ob_s]
  exact dchk_same
theorem ofClaim_2 (ht : tb.length = nS) (w : World hs W) {j : Nat} (hj : j < W.ks.length) : Ans (f_X9_ofClaim tb (ad 0) j 2 hs) (W.kl j).o W := by
  obtain ⟨b1, b2, b3, b4, b5⟩ := w.kl hj
  obtain ⟨g, wc, hc⟩ := w
  refine ⟨hs, ?_, g, wc, hc⟩
  obtain ⟨h, c⟩ := hs
  have hl := wc.lens
  unfold f_X9_ofClaim
  rw [wc.tag, ob_s, wc.claimAt ht hj, obW_l, show wlt 2 0 = false from rfl, cond_false, show wlt 2 5 = true from rfl, cond_true, show weq 2 0 = false from rfl, cond_false, show weq 2 1 = false from rfl, cond_false, show weq 2 2 = true from rfl, cond_true, dgI_ad (k := 2) (wc.kI hj) rfl (by omega), ob_s]
  exact dchk_same
theorem ofClaim_3 (ht : tb.length = nS) (w : World hs W) {j : Nat} (hj : j < W.ks.length) : Ans (f_X9_ofClaim tb (ad 0) j 3 hs) (W.kl j).t W := by
  obtain ⟨b1, b2, b3, b4, b5⟩ := w.kl hj
  obtain ⟨g, wc, hc⟩ := w
  refine ⟨hs, ?_, g, wc, hc⟩
  obtain ⟨h, c⟩ := hs
  have hl := wc.lens
  unfold f_X9_ofClaim
  rw [wc.tag, ob_s, wc.claimAt ht hj, obW_l, show wlt 3 0 = false from rfl, cond_false, show wlt 3 5 = true from rfl, cond_true, show weq 3 0 = false from rfl, cond_false, show weq 3 1 = false from rfl, cond_false, show weq 3 2 = false from rfl, cond_false, show weq 3 3 = true from rfl, cond_true, dgI_ad (k := 3) (wc.kI hj) rfl (by omega), ob_s]
  exact dchk_same
theorem ofClaim_4 (ht : tb.length = nS) (w : World hs W) {j : Nat} (hj : j < W.ks.length) : Ans (f_X9_ofClaim tb (ad 0) j 4 hs) (W.kl j).r W := by
  obtain ⟨b1, b2, b3, b4, b5⟩ := w.kl hj
  obtain ⟨g, wc, hc⟩ := w
  refine ⟨hs, ?_, g, wc, hc⟩
  obtain ⟨h, c⟩ := hs
  have hl := wc.lens
  unfold f_X9_ofClaim
  rw [wc.tag, ob_s, wc.claimAt ht hj, obW_l, show wlt 4 0 = false from rfl, cond_false, show wlt 4 5 = true from rfl, cond_true, show weq 4 0 = false from rfl, cond_false, show weq 4 1 = false from rfl, cond_false, show weq 4 2 = false from rfl, cond_false, show weq 4 3 = false from rfl, cond_false, dgI_ad (k := 4) (wc.kI hj) rfl (by omega), ob_s]
  exact dchk_same
end QA
