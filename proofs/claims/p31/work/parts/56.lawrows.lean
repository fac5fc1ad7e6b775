/-! ===== the law's rows and its loops ===== -/
section LW
variable {tb : List (List Int32)} {W : Wd} {hs : kHS}
def Wd.setRf (W : Wd) (v : List Nat) : Wd := Wd.mk W.n W.cs W.ws W.ks W.tr W.tl v W.td W.rc W.rl
def Wd.setTd (W : Wd) (v : List Nat) : Wd := Wd.mk W.n W.cs W.ws W.ks W.tr W.tl W.rf v W.rc W.rl
theorem World.rows (w : World hs W) : hs.1[49]? = some (100, ints W.rf) ∧ hs.1[50]? = some (100, ints W.td) ∧ W.rf.length = 8 ∧ W.td.length = 8 ∧ sm W.rf ∧ sm W.td := by
  obtain ⟨g, wc, _⟩ := w
  exact ⟨wc.lrf, wc.ltd, wc.lln⟩
theorem setRf_ok (w : World hs W) {j v : Nat} (hj : j < 8) (hv : v < 4294967296) : ∃ hs', dast nS 100 hs (ad 49) j (.int (nI v)) = some hs' ∧ World hs' (W.setRf (W.rf.set j v)) := by
  obtain ⟨g, wc, hc⟩ := w
  obtain ⟨h, c⟩ := hs
  replace wc : WC h W g := wc
  have hl := wc.lln
  refine ⟨(h.set 49 (100, ints (W.rf.set j v)), c), dast_row (hs := (h, c)) wc.lrf (by omega) (by omega), g, ?_, hc⟩
  have f : Fr (fun o => o = 149) g.own g.own h (h.set 49 (100, ints (W.rf.set j v))) := Fr.one wc.fx.2.2.2.2.2.2.1
  unfold Wd.setRf
  exact WC.mk (house := (f.at wc.house wc.fx.1 (show ¬ ((100) = 149) by omega)).1) (rarr := (f.at wc.rarr wc.fx.2.1 (show ¬ ((101) = 149) by omega)).1) (rlen := wc.rlen) (rcur := wc.rcur) (rl := (fun k a e => f.rl (show ¬ ((1) = 149) by omega) (wc.rl k a e))) (surv := (f.sv (show ¬ ((102) = 149) by omega) wc.fx.2.2.1 wc.surv)) (carr := (f.at wc.carr wc.fx.2.2.2.1 (show ¬ ((105) = 149) by omega)).1) (clen := wc.clen) (cat := wc.cat) (ch := (fun x hx => f.ch (show ¬ ((10 + x) = 149) by have hxx : x < W.cs.length := hx; have := wc.lens; omega) (wc.ch x hx))) (warr := (f.at wc.warr wc.fx.2.2.2.2.1 (show ¬ ((106) = 149) by omega)).1) (wlen := wc.wlen) (wat := wc.wat) (wk := (fun x hx => f.wk (show ¬ ((20 + x) = 149) by have hxx : x < W.ws.length := hx; have := wc.lens; omega) (wc.wk x hx))) (karr := (f.at wc.karr wc.fx.2.2.2.2.2.1 (show ¬ ((107) = 149) by omega)).1) (klen := wc.klen) (kat := wc.kat) (kl := (fun x hx => f.kl (show ¬ ((30 + x) = 149) by have hxx : x < W.ks.length := hx; have := wc.lens; omega) (wc.kl x hx))) (lens := wc.lens) (fx := wc.fx) (lrf := (List.getElem?_set_self (lt_of_at wc.lrf))) (ltd := (f.at wc.ltd wc.fx.2.2.2.2.2.2.2 (show ¬ ((150) = 149) by omega)).1) (lln := ⟨by rw [List.length_set]; exact hl.1, hl.2.1, sm_set hl.2.2.1 _ hv, hl.2.2.2⟩)
theorem setTd_ok (w : World hs W) {j v : Nat} (hj : j < 8) (hv : v < 4294967296) : ∃ hs', dast nS 100 hs (ad 50) j (.int (nI v)) = some hs' ∧ World hs' (W.setTd (W.td.set j v)) := by
  obtain ⟨g, wc, hc⟩ := w
  obtain ⟨h, c⟩ := hs
  replace wc : WC h W g := wc
  have hl := wc.lln
  refine ⟨(h.set 50 (100, ints (W.td.set j v)), c), dast_row (hs := (h, c)) wc.ltd (by omega) (by omega), g, ?_, hc⟩
  have f : Fr (fun o => o = 150) g.own g.own h (h.set 50 (100, ints (W.td.set j v))) := Fr.one wc.fx.2.2.2.2.2.2.2
  unfold Wd.setTd
  exact WC.mk (house := (f.at wc.house wc.fx.1 (show ¬ ((100) = 150) by omega)).1) (rarr := (f.at wc.rarr wc.fx.2.1 (show ¬ ((101) = 150) by omega)).1) (rlen := wc.rlen) (rcur := wc.rcur) (rl := (fun k a e => f.rl (show ¬ ((1) = 150) by omega) (wc.rl k a e))) (surv := (f.sv (show ¬ ((102) = 150) by omega) wc.fx.2.2.1 wc.surv)) (carr := (f.at wc.carr wc.fx.2.2.2.1 (show ¬ ((105) = 150) by omega)).1) (clen := wc.clen) (cat := wc.cat) (ch := (fun x hx => f.ch (show ¬ ((10 + x) = 150) by have hxx : x < W.cs.length := hx; have := wc.lens; omega) (wc.ch x hx))) (warr := (f.at wc.warr wc.fx.2.2.2.2.1 (show ¬ ((106) = 150) by omega)).1) (wlen := wc.wlen) (wat := wc.wat) (wk := (fun x hx => f.wk (show ¬ ((20 + x) = 150) by have hxx : x < W.ws.length := hx; have := wc.lens; omega) (wc.wk x hx))) (karr := (f.at wc.karr wc.fx.2.2.2.2.2.1 (show ¬ ((107) = 150) by omega)).1) (klen := wc.klen) (kat := wc.kat) (kl := (fun x hx => f.kl (show ¬ ((30 + x) = 150) by have hxx : x < W.ks.length := hx; have := wc.lens; omega) (wc.kl x hx))) (lens := wc.lens) (fx := wc.fx) (lrf := (f.at wc.lrf wc.fx.2.2.2.2.2.2.1 (show ¬ ((149) = 150) by omega)).1) (ltd := (List.getElem?_set_self (lt_of_at wc.ltd))) (lln := ⟨hl.1, by rw [List.length_set]; exact hl.2.1, hl.2.2.1, sm_set hl.2.2.2 _ hv⟩)
theorem getRf_ok (ht : tb.length = nS) (w : World hs W) {j : Nat} (hj : j < 8) : daldI tb hs.1 (ad 49) j = some (W.rf.getD j 0) := by
  obtain ⟨a, b, c, d, e, f⟩ := w.rows
  have h := getD_at (show j < W.rf.length by omega)
  exact daldI_row ht a (by omega) h (e _ (List.mem_of_getElem? h))
theorem getTd_ok (ht : tb.length = nS) (w : World hs W) {j : Nat} (hj : j < 8) : daldI tb hs.1 (ad 50) j = some (W.td.getD j 0) := by
  obtain ⟨a, b, c, d, e, f⟩ := w.rows
  have h := getD_at (show j < W.td.length by omega)
  exact daldI_row ht b (by omega) h (f _ (List.mem_of_getElem? h))
/-- what holds of the law's own rows, and how far the room is used -/
def Kc (W : Wd) : Prop := ∀ j, j < W.ks.length → W.td.getD j 0 = (W.kl j).t ∧ W.rf.getD j 0 = (W.kl j).r
def Kp (W : Wd) (r : Nat) : Prop := Kc W ∧ W.tr ≤ r ∧ W.tl ≤ r ∧ W.rc ≤ 1000 + 100 * r ∧ W.rl ≤ 10000 + 5000 * r
theorem law_1 (ht : tb.length = nS) {r m : Nat} (hr : r < 40) (k9 : Kc W) (H : ∀ hs, World hs W → ∃ hs', lp_L_law tb m 0 6 (ad 0) W.n (ad 49) (ad 50) (r + 1) 0 0 0 hs = some (.inl 1, hs') ∧ hs'.2.1 ≤ 100000 ∧ hs'.2.2 ≤ 1000000) : ∀ (l k : Nat) (hs : kHS), k + l = W.ks.length → World hs W → ∃ hs', lp_L_law tb (m + l + 1) 1 6 (ad 0) W.n (ad 49) (ad 50) r 0 0 k hs = some (.inl 1, hs') ∧ hs'.2.1 ≤ 100000 ∧ hs'.2.2 ≤ 1000000 := by
  intro l
  induction l with
  | zero =>
    intro k hs hk w
    have b3 := w.w6.2.2.2.2.2
    obtain ⟨s1, e1, w1⟩ := many_3 (tb := tb) w
    obtain ⟨s2, e2, z⟩ := H s1 w1
    refine ⟨s2, ?_, z⟩
    rw [show m + 0 + 1 = m + 1 from rfl, lp_L_law_s1]
    unfold lb1_L_law
    rw [w.tag, ob_s, e1, obW_l, wle_s (by omega) (by omega), decide_eq_true (by omega), cond_true, dl_eq, wadd_s (by omega)]
    exact e2
  | succ l ih =>
    intro k hs hk w
    have b3 := w.w6.2.2.2.2.2
    have hk2 : k < W.ks.length := by omega
    obtain ⟨c1, c2⟩ := k9 k hk2
    have hb := w.kl hk2
    obtain ⟨s1, e1, w1⟩ := many_3 (tb := tb) w
    obtain ⟨s2, e2, w2⟩ := ofClaim_3 ht w1 hk2
    obtain ⟨s3, e3, w3⟩ := ofClaim_4 ht w2 hk2
    obtain ⟨s4, e4, z⟩ := ih (k + 1) s3 (by omega) w3
    refine ⟨s4, ?_, z⟩
    rw [show m + (l + 1) + 1 = (m + l + 1) + 1 from rfl, lp_L_law_s1]
    unfold lb1_L_law
    rw [w.tag, ob_s, e1, obW_l, wle_s (by omega) (by omega), decide_eq_false (by omega), cond_false, w1.tag, ob_s, e2, obW_l, getTd_ok ht w2 (by omega), ob_s, c1, weq_s (by omega) (by omega), decide_eq_true rfl, Bool.not_true, cond_false, w2.tag, ob_s, e3, obW_l, getRf_ok ht w3 (by omega), ob_s, c2, weq_s (by omega) (by omega), decide_eq_true rfl, cond_true, dl_eq, wadd_s (by omega)]
    exact e4
/-- the law's cells are numbers -/
theorem cell_ok {xl : List Int32} (hx : xl.length ≤ 260) (h : List kCel) {k : Nat} (hk : k < 100) : ∃ v, f_L_cell (kT7 ++ [xl]) h 6 k = some v := by
  have e : (kT7 ++ [xl])[5]? = some xl := rfl
  unfold f_L_cell dalen
  rw [show Nat.beq 6 0 = false from rfl, cond_false, show Nat.pred 6 = 5 from rfl, e]
  show ∃ v, ob (some xl.length) _ = some v
  rw [ob_s, wle_s (by omega) (by omega)]
  by_cases hc : xl.length ≤ k
  · rw [decide_eq_true hc, cond_true]
    exact ⟨_, rfl⟩
  · rw [decide_eq_false hc, cond_false]
    unfold daldI
    rw [show Nat.beq 6 0 = false from rfl, cond_false, show Nat.pred 6 = 5 from rfl, e]
    show ∃ v, ob (ob (didx xl k) fun x => some (wof x)) _ = some v
    rw [didx_s _ (by omega), List.getElem?_eq_getElem (by omega), ob_s, ob_s]
    exact ⟨_, rfl⟩
end LW
