/-! ===== what is asked of the house ===== -/
theorem Fr.tr {S : Nat → Prop} {own own' own'' : Nat → Nat} {h h1 h2 : List kCel} (a : Fr S own own' h h1) (b : Fr S own' own'' h1 h2) : Fr S own own'' h h2 :=
  ⟨Nat.le_trans a.1 b.1, fun x hx hn => by
    obtain ⟨a1, a2⟩ := a.2 x hx hn
    obtain ⟨b1, b2⟩ := b.2 x (Nat.lt_of_lt_of_le hx a.1) (by rw [a2]; exact hn)
    exact ⟨b1.trans a1, b2.trans a2⟩⟩
/-- an answer, and the world behind it -/
def Ans (o : Option (dR Nat)) (v : Nat) (W : Wd) : Prop := ∃ hs', o = some (.inl v, hs') ∧ World hs' W
abbrev Wd.sg (W : Wd) (j : Nat) : List Nat := (W.cs.getD j ([], 0)).1
abbrev Wd.cl (W : Wd) (j : Nat) : Nat := (W.cs.getD j ([], 0)).2
noncomputable def svv (n : Nat) (σ : List Nat) : Nat × Nat × Nat × Nat := (SV n σ).getD (0, 0, 0, 0)
theorem svv_ok {σ : List Nat} {n : Nat} (w : Word σ) (h1 : 1 ≤ n) (h2 : n ≤ 5) : SV n σ = some (svv n σ) := by
  obtain ⟨v, hv⟩ := SV_ex w h1 h2
  unfold svv
  rw [hv]
  rfl
section AS
variable {tb : List (List Int32)} {h : List kCel} {W : Wd} {g : Gh} {c : Nat × Nat} {hs : kHS}
theorem WC.word (w : WC h W g) {j : Nat} (hj : j < W.cs.length) : Word (W.sg j) := (w.ch j hj).1
theorem WC.i5 (w : WC h W g) {i o : Nat} (e : g.own i = o) (ho : o < 100) : 5 ≤ i := by
  have hx := w.fx
  apply Classical.byContradiction
  intro hn
  rcases (show i = 0 ∨ i = 1 ∨ i = 2 ∨ i = 3 ∨ i = 4 by omega) with rfl | rfl | rfl | rfl | rfl
  · omega
  · omega
  · omega
  · omega
  · omega
theorem WC.take (ht : tb.length = nS) (w : WC h W g) {j : Nat} (hj : j < W.cs.length) : ∃ h', f_X6_take tb (ad 2) (ad (g.ci j)) (ad g.p) (h, c) = some (.inl (), (h', c)) ∧ WC h' W g ∧ ChartAt h' (g.ci j) (W.sg j) (W.cl j) W.n (svv W.n (W.sg j)).1 (svv W.n (W.sg j)).2.1 (svv W.n (W.sg j)).2.2.1 (svv W.n (W.sg j)).2.2.2 ∧ Fr (fun o => o = 102 ∨ o = 10 + j) g.own g.own h h' := by
  obtain ⟨w1, o1, o2, sv, d, u, r, q, a, hc⟩ := w.ch j hj
  obtain ⟨es, ms, s⟩ := w.surv
  obtain ⟨rl, rl2, rl3⟩ := w.Rl
  have hn := w.n5
  have hl := w.lens
  have hw := svv_ok w1 hn.1 hn.2
  have hx := w.fx
  obtain ⟨h', es', ms', e1, e2, e3, e4⟩ := take_ok (c := c) ht (w.i5 o1 (by omega)) (fun x h1 h2 hX => by
    have := rl3 x h1 h2
    rcases hX with rfl | rfl | rfl
    · omega
    · omega
    · omega) rl s a hw (fun e => by
    rcases hc with h0 | ⟨_, _, h0⟩
    · omega
    · rw [e] at h0
      have := h0.symm.trans hw
      exact Option.some.inj this)
  have f : Fr (fun o => o = 102 ∨ o = 10 + j) g.own g.own h h' := Fr.of_but e2 (fun x hX => by
    rcases hX with rfl | rfl | rfl
    · exact Or.inl hx.2.2.1.2.1
    · exact Or.inl hx.2.2.1.2.2
    · exact Or.inr o1)
  refine ⟨h', e1, ?_, e4, f⟩
  exact WC.mk (house := (f.at w.house w.fx.1 (show ¬ ((100) = 102 ∨ (100) = 10 + j) by omega)).1) (rarr := (f.at w.rarr w.fx.2.1 (show ¬ ((101) = 102 ∨ (101) = 10 + j) by omega)).1) (rlen := w.rlen) (rcur := w.rcur) (rl := (fun k a e => f.rl (show ¬ ((1) = 102 ∨ (1) = 10 + j) by omega) (w.rl k a e))) (surv := ⟨es', ms', e3⟩) (carr := (f.at w.carr w.fx.2.2.2.1 (show ¬ ((105) = 102 ∨ (105) = 10 + j) by omega)).1) (clen := w.clen) (cat := w.cat) (ch := (fun x hx2 => by
    by_cases e : x = j
    · subst e
      exact ⟨w1, o1, o2, _, _, _, _, _, e4, Or.inr ⟨hn.1, hn.2, hw⟩⟩
    · exact f.ch (show ¬ (10 + x = 102 ∨ 10 + x = 10 + j) by omega) (w.ch x hx2))) (warr := (f.at w.warr w.fx.2.2.2.2.1 (show ¬ ((106) = 102 ∨ (106) = 10 + j) by omega)).1) (wlen := w.wlen) (wat := w.wat) (wk := (fun x hx => f.wk (show ¬ ((20 + x) = 102 ∨ (20 + x) = 10 + j) by have hxx : x < W.ws.length := hx; have := w.lens; omega) (w.wk x hx))) (karr := (f.at w.karr w.fx.2.2.2.2.2.1 (show ¬ ((107) = 102 ∨ (107) = 10 + j) by omega)).1) (klen := w.klen) (kat := w.kat) (kl := (fun x hx => f.kl (show ¬ ((30 + x) = 102 ∨ (30 + x) = 10 + j) by have hxx : x < W.ks.length := hx; have := w.lens; omega) (w.kl x hx))) (lens := w.lens) (fx := w.fx) (lrf := (f.at w.lrf w.fx.2.2.2.2.2.2.1 (show ¬ ((149) = 102 ∨ (149) = 10 + j) by omega)).1) (ltd := (f.at w.ltd w.fx.2.2.2.2.2.2.2 (show ¬ ((150) = 102 ∨ (150) = 10 + j) by omega)).1) (lln := w.lln)
theorem World.tag (w : World hs W) : dtag nS c_X9 hs.1 (ad 0) = some () := by
  obtain ⟨g, wc, _⟩ := w
  exact wc.tag
theorem World.n5 (w : World hs W) : 1 ≤ W.n ∧ W.n ≤ 5 := by
  obtain ⟨g, wc, _⟩ := w
  exact wc.n5
theorem World.word (w : World hs W) {j : Nat} (hj : j < W.cs.length) : Word (W.sg j) := by
  obtain ⟨g, wc, _⟩ := w
  exact wc.word hj
theorem many_0 (w : World hs W) : Ans (f_X9_many tb (ad 0) 0 hs) W.n W := by
  obtain ⟨g, wc, hc⟩ := w
  refine ⟨hs, ?_, g, wc, hc⟩
  unfold f_X9_many
  rw [show wlt 0 0 = false from rfl, cond_false, show wlt 0 7 = true from rfl, cond_true, show weq 0 0 = true from rfl, cond_true, wc.g5, ob_s, wc.Rl.1.size, ob_s]
  exact dchk_same
theorem many_1 (w : World hs W) : Ans (f_X9_many tb (ad 0) 1 hs) W.cs.length W := by
  obtain ⟨g, wc, hc⟩ := w
  refine ⟨hs, ?_, g, wc, hc⟩
  unfold f_X9_many
  rw [show wlt 1 0 = false from rfl, cond_false, show wlt 1 7 = true from rfl, cond_true, show weq 1 0 = false from rfl, cond_false, show weq 1 1 = true from rfl, cond_true, wc.g6, ob_s]
  exact dchk_same
theorem many_2 (w : World hs W) : Ans (f_X9_many tb (ad 0) 2 hs) W.ws.length W := by
  obtain ⟨g, wc, hc⟩ := w
  refine ⟨hs, ?_, g, wc, hc⟩
  unfold f_X9_many
  rw [show wlt 2 0 = false from rfl, cond_false, show wlt 2 7 = true from rfl, cond_true, show weq 2 0 = false from rfl, cond_false, show weq 2 1 = false from rfl, cond_false, show weq 2 2 = true from rfl, cond_true, wc.g7, ob_s]
  exact dchk_same
theorem many_3 (w : World hs W) : Ans (f_X9_many tb (ad 0) 3 hs) W.ks.length W := by
  obtain ⟨g, wc, hc⟩ := w
  refine ⟨hs, ?_, g, wc, hc⟩
  unfold f_X9_many
  rw [show wlt 3 0 = false from rfl, cond_false, show wlt 3 7 = true from rfl, cond_true, show weq 3 0 = false from rfl, cond_false, show weq 3 1 = false from rfl, cond_false, show weq 3 2 = false from rfl, cond_false, show weq 3 3 = true from rfl, cond_true, wc.g8, ob_s]
  exact dchk_same
theorem many_5 (w : World hs W) : Ans (f_X9_many tb (ad 0) 5 hs) W.tr W := by
  obtain ⟨g, wc, hc⟩ := w
  refine ⟨hs, ?_, g, wc, hc⟩
  unfold f_X9_many
  rw [show wlt 5 0 = false from rfl, cond_false, show wlt 5 7 = true from rfl, cond_true, show weq 5 0 = false from rfl, cond_false, show weq 5 1 = false from rfl, cond_false, show weq 5 2 = false from rfl, cond_false, show weq 5 3 = false from rfl, cond_false, show weq 5 4 = false from rfl, cond_false, show weq 5 5 = true from rfl, cond_true, wc.g9, ob_s]
  exact dchk_same
theorem many_6 (w : World hs W) : Ans (f_X9_many tb (ad 0) 6 hs) W.tl W := by
  obtain ⟨g, wc, hc⟩ := w
  refine ⟨hs, ?_, g, wc, hc⟩
  unfold f_X9_many
  rw [show wlt 6 0 = false from rfl, cond_false, show wlt 6 7 = true from rfl, cond_true, show weq 6 0 = false from rfl, cond_false, show weq 6 1 = false from rfl, cond_false, show weq 6 2 = false from rfl, cond_false, show weq 6 3 = false from rfl, cond_false, show weq 6 4 = false from rfl, cond_false, show weq 6 5 = false from rfl, cond_false, wc.g10, ob_s]
  exact dchk_same
/-- what a map is -/
noncomputable def omv (W : Wd) (j what : Nat) : Nat := match what with
  | 0 => frm (W.sg j)
  | 1 => tto (W.sg j)
  | 2 => (W.sg j).length
  | 3 => bif Nat.beq (svv W.n (W.sg j)).1 (cnt W.n (frm (W.sg j))) then 1 else 0
  | 4 => bif Nat.beq (svv W.n (W.sg j)).1 (cnt W.n (tto (W.sg j))) then 1 else 0
  | 5 => (svv W.n (W.sg j)).1
  | 6 => (svv W.n (W.sg j)).2.1
  | _ => bif Nat.beq (W.cl j) 0 then 0 else 1
theorem ofMap_0 (ht : tb.length = nS) (w : World hs W) {j : Nat} (hj : j < W.cs.length) : Ans (f_X9_ofMap tb (ad 0) j 0 hs) (omv W j 0) W := by
  obtain ⟨g, wc, hc⟩ := w
  obtain ⟨h, c⟩ := hs
  obtain ⟨h', e, w2, a, _⟩ := wc.take (c := c) ht hj
  refine ⟨(h', c), ?_, g, w2, hc⟩
  unfold f_X9_ofMap
  rw [wc.tag, ob_s, wc.chartAt ht hj, obW_l, show wlt 0 0 = false from rfl, cond_false, show wlt 0 8 = true from rfl, cond_true, wc.g1, ob_s, wc.g5, ob_s]
  obtain ⟨es, ms, s⟩ := wc.surv
  rw [s.tag, ob_s, e, obW_l, show weq 0 0 = true from rfl, cond_true, a.from_, ob_s]
  exact dchk_same
theorem ofMap_1 (ht : tb.length = nS) (w : World hs W) {j : Nat} (hj : j < W.cs.length) : Ans (f_X9_ofMap tb (ad 0) j 1 hs) (omv W j 1) W := by
  obtain ⟨g, wc, hc⟩ := w
  obtain ⟨h, c⟩ := hs
  obtain ⟨h', e, w2, a, _⟩ := wc.take (c := c) ht hj
  refine ⟨(h', c), ?_, g, w2, hc⟩
  unfold f_X9_ofMap
  rw [wc.tag, ob_s, wc.chartAt ht hj, obW_l, show wlt 1 0 = false from rfl, cond_false, show wlt 1 8 = true from rfl, cond_true, wc.g1, ob_s, wc.g5, ob_s]
  obtain ⟨es, ms, s⟩ := wc.surv
  rw [s.tag, ob_s, e, obW_l, show weq 1 0 = false from rfl, cond_false, show weq 1 1 = true from rfl, cond_true, a.to_, ob_s]
  exact dchk_same
theorem ofMap_2 (ht : tb.length = nS) (w : World hs W) {j : Nat} (hj : j < W.cs.length) : Ans (f_X9_ofMap tb (ad 0) j 2 hs) (omv W j 2) W := by
  obtain ⟨g, wc, hc⟩ := w
  obtain ⟨h, c⟩ := hs
  obtain ⟨h', e, w2, a, _⟩ := wc.take (c := c) ht hj
  refine ⟨(h', c), ?_, g, w2, hc⟩
  unfold f_X9_ofMap
  rw [wc.tag, ob_s, wc.chartAt ht hj, obW_l, show wlt 2 0 = false from rfl, cond_false, show wlt 2 8 = true from rfl, cond_true, wc.g1, ob_s, wc.g5, ob_s]
  obtain ⟨es, ms, s⟩ := wc.surv
  rw [s.tag, ob_s, e, obW_l, show weq 2 0 = false from rfl, cond_false, show weq 2 1 = false from rfl, cond_false, show weq 2 2 = true from rfl, cond_true, a.len, ob_s]
  exact dchk_same
theorem ofMap_3 (ht : tb.length = nS) (w : World hs W) {j : Nat} (hj : j < W.cs.length) : Ans (f_X9_ofMap tb (ad 0) j 3 hs) (omv W j 3) W := by
  obtain ⟨g, wc, hc⟩ := w
  obtain ⟨h, c⟩ := hs
  obtain ⟨h', e, w2, a, _⟩ := wc.take (c := c) ht hj
  refine ⟨(h', c), ?_, g, w2, hc⟩
  unfold f_X9_ofMap
  rw [wc.tag, ob_s, wc.chartAt ht hj, obW_l, show wlt 3 0 = false from rfl, cond_false, show wlt 3 8 = true from rfl, cond_true, wc.g1, ob_s, wc.g5, ob_s]
  obtain ⟨es, ms, s⟩ := wc.surv
  rw [s.tag, ob_s, e, obW_l, show weq 3 0 = false from rfl, cond_false, show weq 3 1 = false from rfl, cond_false, show weq 3 2 = false from rfl, cond_false, show weq 3 3 = true from rfl, cond_true, a.dist, ob_s, w2.g5, ob_s, a.from_, ob_s, w2.Rl.1.tag, ob_s, w2.Rl.1.count ht (frm_lt _), ob_s, weq_s a.2.2.2.2.2.1 (by have := (cnt_720 w2.n5.1 w2.n5.2 (frm_lt (W.sg j))).1; omega)]
  unfold omv
  cases hb : Nat.beq (svv W.n (W.sg j)).1 (cnt W.n (frm (W.sg j))) with
  | true => rw [decide_eq_true (Nat.eq_of_beq_eq_true hb), Bool.not_true, cond_false]; exact dchk_same
  | false => rw [decide_eq_false (fun e => by rw [e, Nat.beq_refl] at hb; cases hb), Bool.not_false, cond_true]; exact dchk_same
theorem ofMap_4 (ht : tb.length = nS) (w : World hs W) {j : Nat} (hj : j < W.cs.length) : Ans (f_X9_ofMap tb (ad 0) j 4 hs) (omv W j 4) W := by
  obtain ⟨g, wc, hc⟩ := w
  obtain ⟨h, c⟩ := hs
  obtain ⟨h', e, w2, a, _⟩ := wc.take (c := c) ht hj
  refine ⟨(h', c), ?_, g, w2, hc⟩
  unfold f_X9_ofMap
  rw [wc.tag, ob_s, wc.chartAt ht hj, obW_l, show wlt 4 0 = false from rfl, cond_false, show wlt 4 8 = true from rfl, cond_true, wc.g1, ob_s, wc.g5, ob_s]
  obtain ⟨es, ms, s⟩ := wc.surv
  rw [s.tag, ob_s, e, obW_l, show weq 4 0 = false from rfl, cond_false, show weq 4 1 = false from rfl, cond_false, show weq 4 2 = false from rfl, cond_false, show weq 4 3 = false from rfl, cond_false, show weq 4 4 = true from rfl, cond_true, a.dist, ob_s, w2.g5, ob_s, a.to_, ob_s, w2.Rl.1.tag, ob_s, w2.Rl.1.count ht (tto_lt _), ob_s, weq_s a.2.2.2.2.2.1 (by have := (cnt_720 w2.n5.1 w2.n5.2 (tto_lt (W.sg j))).1; omega)]
  unfold omv
  cases hb : Nat.beq (svv W.n (W.sg j)).1 (cnt W.n (tto (W.sg j))) with
  | true => rw [decide_eq_true (Nat.eq_of_beq_eq_true hb), Bool.not_true, cond_false]; exact dchk_same
  | false => rw [decide_eq_false (fun e => by rw [e, Nat.beq_refl] at hb; cases hb), Bool.not_false, cond_true]; exact dchk_same
theorem ofMap_5 (ht : tb.length = nS) (w : World hs W) {j : Nat} (hj : j < W.cs.length) : Ans (f_X9_ofMap tb (ad 0) j 5 hs) (omv W j 5) W := by
  obtain ⟨g, wc, hc⟩ := w
  obtain ⟨h, c⟩ := hs
  obtain ⟨h', e, w2, a, _⟩ := wc.take (c := c) ht hj
  refine ⟨(h', c), ?_, g, w2, hc⟩
  unfold f_X9_ofMap
  rw [wc.tag, ob_s, wc.chartAt ht hj, obW_l, show wlt 5 0 = false from rfl, cond_false, show wlt 5 8 = true from rfl, cond_true, wc.g1, ob_s, wc.g5, ob_s]
  obtain ⟨es, ms, s⟩ := wc.surv
  rw [s.tag, ob_s, e, obW_l, show weq 5 0 = false from rfl, cond_false, show weq 5 1 = false from rfl, cond_false, show weq 5 2 = false from rfl, cond_false, show weq 5 3 = false from rfl, cond_false, show weq 5 4 = false from rfl, cond_false, show weq 5 5 = true from rfl, cond_true, a.dist, ob_s]
  exact dchk_same
theorem ofMap_6 (ht : tb.length = nS) (w : World hs W) {j : Nat} (hj : j < W.cs.length) : Ans (f_X9_ofMap tb (ad 0) j 6 hs) (omv W j 6) W := by
  obtain ⟨g, wc, hc⟩ := w
  obtain ⟨h, c⟩ := hs
  obtain ⟨h', e, w2, a, _⟩ := wc.take (c := c) ht hj
  refine ⟨(h', c), ?_, g, w2, hc⟩
  unfold f_X9_ofMap
  rw [wc.tag, ob_s, wc.chartAt ht hj, obW_l, show wlt 6 0 = false from rfl, cond_false, show wlt 6 8 = true from rfl, cond_true, wc.g1, ob_s, wc.g5, ob_s]
  obtain ⟨es, ms, s⟩ := wc.surv
  rw [s.tag, ob_s, e, obW_l, show weq 6 0 = false from rfl, cond_false, show weq 6 1 = false from rfl, cond_false, show weq 6 2 = false from rfl, cond_false, show weq 6 3 = false from rfl, cond_false, show weq 6 4 = false from rfl, cond_false, show weq 6 5 = false from rfl, cond_false, show weq 6 6 = true from rfl, cond_true, a.unm, ob_s]
  exact dchk_same
theorem ofMap_7 (ht : tb.length = nS) (w : World hs W) {j : Nat} (hj : j < W.cs.length) : Ans (f_X9_ofMap tb (ad 0) j 7 hs) (omv W j 7) W := by
  obtain ⟨g, wc, hc⟩ := w
  obtain ⟨h, c⟩ := hs
  obtain ⟨h', e, w2, a, _⟩ := wc.take (c := c) ht hj
  refine ⟨(h', c), ?_, g, w2, hc⟩
  unfold f_X9_ofMap
  rw [wc.tag, ob_s, wc.chartAt ht hj, obW_l, show wlt 7 0 = false from rfl, cond_false, show wlt 7 8 = true from rfl, cond_true, wc.g1, ob_s, wc.g5, ob_s]
  obtain ⟨es, ms, s⟩ := wc.surv
  rw [s.tag, ob_s, e, obW_l, show weq 7 0 = false from rfl, cond_false, show weq 7 1 = false from rfl, cond_false, show weq 7 2 = false from rfl, cond_false, show weq 7 3 = false from rfl, cond_false, show weq 7 4 = false from rfl, cond_false, show weq 7 5 = false from rfl, cond_false, show weq 7 6 = false from rfl, cond_false, a.claimed, ob_s, weq_s (by have := a.2.2.2.1; omega) (by decide)]
  unfold omv
  cases hb : Nat.beq (W.cl j) 0 with
  | true => rw [decide_eq_true (Nat.eq_of_beq_eq_true hb), cond_true]; exact dchk_same
  | false => rw [decide_eq_false (fun e => by rw [e, Nat.beq_refl] at hb; cases hb), cond_false]; exact dchk_same
theorem rounds_ok (ht : tb.length = nS) (w : World hs W) {j : Nat} (hj : j < W.cs.length) : Ans (f_X9_rounds tb (ad 0) j hs) (svv W.n (W.sg j)).2.2.1 W := by
  obtain ⟨g, wc, hc⟩ := w
  obtain ⟨h, c⟩ := hs
  obtain ⟨h', e, w2, a, _⟩ := wc.take (c := c) ht hj
  refine ⟨(h', c), ?_, g, w2, hc⟩
  unfold f_X9_rounds
  rw [wc.tag, ob_s, wc.chartAt ht hj, obW_l, wc.g1, ob_s, wc.g5, ob_s]
  obtain ⟨es, ms, s⟩ := wc.surv
  rw [s.tag, ob_s, e, obW_l, a.rnds, ob_s]
  exact dchk_same
theorem period_ok (ht : tb.length = nS) (w : World hs W) {j : Nat} (hj : j < W.cs.length) : Ans (f_X9_period tb (ad 0) j hs) (svv W.n (W.sg j)).2.2.2 W := by
  obtain ⟨g, wc, hc⟩ := w
  obtain ⟨h, c⟩ := hs
  obtain ⟨h', e, w2, a, _⟩ := wc.take (c := c) ht hj
  refine ⟨(h', c), ?_, g, w2, hc⟩
  unfold f_X9_period
  rw [wc.tag, ob_s, wc.chartAt ht hj, obW_l, wc.g1, ob_s, wc.g5, ob_s]
  obtain ⟨es, ms, s⟩ := wc.surv
  rw [s.tag, ob_s, e, obW_l, a.per, ob_s]
  exact dchk_same
/-- a cell of nobody's stays -/
theorem ofMap_1x (ht : tb.length = nS) {h : List kCel} {c : Nat × Nat} (w : WC h W g) {j : Nat} (hj : j < W.cs.length) {x : Nat} {z : kCel} (hx : h[x]? = some z) (ho : g.own x = 999) : ∃ h', f_X9_ofMap tb (ad 0) j 1 (h, c) = some (.inl (tto (W.sg j)), (h', c)) ∧ WC h' W g ∧ h'[x]? = some z := by
  obtain ⟨h', e, w2, a, f⟩ := w.take (c := c) ht hj
  refine ⟨h', ?_, w2, (f.at hx ho (by have := w.lens; show ¬ (999 = 102 ∨ 999 = 10 + j); omega)).1⟩
  unfold f_X9_ofMap
  rw [w.tag, ob_s, w.chartAt ht hj, obW_l, show wlt 1 0 = false from rfl, cond_false, show wlt 1 8 = true from rfl, cond_true, w.g1, ob_s, w.g5, ob_s]
  obtain ⟨es, ms, s⟩ := w.surv
  rw [s.tag, ob_s, e, obW_l, show weq 1 0 = false from rfl, cond_false, show weq 1 1 = true from rfl, cond_true, a.to_, ob_s]
  exact dchk_same
end AS
