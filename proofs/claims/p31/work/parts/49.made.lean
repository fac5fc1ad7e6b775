/-! ===== what is made in the house ===== -/
theorem app_set1 {α : Type} (H : List α) (x y z : α) : (H ++ [x, y]).set (H.length + 1) z = H ++ [x, z] := by
  rw [List.set_append_right _ _ (by omega), show H.length + 1 - H.length = 1 by omega]
  rfl
theorem Fr.app {S : Nat → Prop} {own : Nat → Nat} {h T : List kCel} {k : Nat} : Fr S own (fun x => if x < h.length then own x else k) h (h ++ T) :=
  ⟨by rw [List.length_append]; omega, fun x hx _ => ⟨app_lt hx, if_pos hx⟩⟩
section MK
variable {tb : List (List Int32)} {h : List kCel} {W : Wd} {g : Gh} {c : Nat × Nat} {hs : kHS}
theorem chart_init (ht : tb.length = nS) {s : Nat} (hs : s < 11) (h : List kCel) (c : Nat × Nat) : f_X0_init tb (ad h.length) s (h ++ [(c_X0, [.int 0, .int 0, .null, .int 0, .int 0, .int 0, .int 0, .int 0, .int 0, .long 0])], c) = some (.inl (), (h ++ [chC h.length [s] 0 0 0 0 0 0, (100, ints [s, 0, 0, 0, 0, 0])], (c.1 + 1, c.2 + 6))) := by
  have e1 : dnewa nS 100 6 (h ++ [(c_X0, [.int 0, .int 0, .null, .int 0, .int 0, .int 0, .int 0, .int 0, .int 0, .long 0])], c) = some (ad (h.length + 1), (h ++ [(c_X0, [.int 0, .int 0, .null, .int 0, .int 0, .int 0, .int 0, .int 0, .int 0, .long 0]), (100, ints [0, 0, 0, 0, 0, 0])], (c.1 + 1, c.2 + 6))) := by
    rw [dnewa_s (by decide), List.append_assoc, List.length_append]
    rfl
  unfold f_X0_init
  rw [dnn_ad, ob_s, e1, ob_s]
  dsimp only
  rw [dput_app (Nat.le_of_ble_eq_true rfl) rfl, ob_s]
  dsimp only
  rw [dgR_ad (k := 2) (app_at _ _ _) rfl, ob_s, dalen_ad ht (i := h.length + 1) (app_ge h _ _ 0) rfl, ob_s, show wle (List.length (Prod.snd ((100, ints [0, 0, 0, 0, 0, 0]) : kCel))) 0 = false from rfl, cond_false, ob_s, dast_row (hs := (_, _)) (i := h.length + 1) (j := 0) (xs := [0, 0, 0, 0, 0, 0]) (app_ge h _ _ 0) (by decide) (by decide), ob_s]
  dsimp only
  rw [app_set1, dput_app (Nat.le_of_ble_eq_true rfl) rfl, ob_s, d0_ok s hs, ob_s, dput_app (Nat.le_of_ble_eq_true rfl) rfl, ob_s, d1_ok s hs, ob_s, dput_app (Nat.le_of_ble_eq_true rfl) rfl, ob_s]
  exact dchk_eq (Nat.le_succ _) (Nat.le_add_right _ _)
theorem chartAt_new {h : List kCel} {i s : Nat} (hs : s < 11) (e1 : h[i]? = some (chC i [s] 0 0 0 0 0 0)) (e2 : h[i + 1]? = some (100, ints [s, 0, 0, 0, 0, 0])) : ChartAt h i [s] 0 0 0 0 0 0 :=
  ⟨e1, e2, ⟨Nat.le_refl _, by show 1 ≤ 6; decide, fun x hx => by rw [List.mem_singleton.mp hx]; exact hs⟩, by decide⟩
def Wd.mapped (W : Wd) (s : Nat) : Wd := Wd.mk W.n (W.cs ++ [([s], 0)]) W.ws W.ks W.tr W.tl W.rf W.td (W.rc + 2) (W.rl + 16)
theorem map_ok (ht : tb.length = nS) (w : World hs W) {s : Nat} (hs11 : s < 11) (h8 : W.cs.length < 8) : Ans (f_X9_map tb (ad 0) s hs) W.cs.length (W.mapped s) := by
  obtain ⟨g, wc, hc⟩ := w
  obtain ⟨h, c⟩ := hs
  replace wc : WC h W g := wc
  have hl := wc.lens
  have hx := wc.fx
  have hh := wc.hlen
  generalize hC : chC h.length [s] 0 0 0 0 0 0 = C
  generalize hR : ((100, ints [s, 0, 0, 0, 0, 0]) : kCel) = R
  have q0 : ((h ++ [C, R]).set 5 (105, rvs (g.ca.set W.cs.length (ad h.length))))[0]? = some (houC g.p W.cs.length W.ws.length W.ks.length W.tr W.tl) := by
    rw [List.getElem?_set_ne (by decide), app_lt (by omega)]; exact wc.house
  have q1 : (((h ++ [C, R]).set 5 (105, rvs (g.ca.set W.cs.length (ad h.length)))).set 0 (houC g.p (W.cs.length + 1) W.ws.length W.ks.length W.tr W.tl))[0]? = some (houC g.p (W.cs.length + 1) W.ws.length W.ks.length W.tr W.tl) := List.getElem?_set_self (lt_of_at q0)
  have hL : ∀ x, 8 ≤ x → (((h ++ [C, R]).set 5 (105, rvs (g.ca.set W.cs.length (ad h.length)))).set 0 (houC g.p (W.cs.length + 1) W.ws.length W.ks.length W.tr W.tl))[x]? = (h ++ [C, R])[x]? := fun x hx => by
    rw [List.getElem?_set_ne (by omega), List.getElem?_set_ne (by omega)]
  have f : Fr (fun o => o = 100 ∨ o = 105) g.own (fun x => if x < h.length then g.own x else 10 + W.cs.length) h (((h ++ [C, R]).set 5 (105, rvs (g.ca.set W.cs.length (ad h.length)))).set 0 (houC g.p (W.cs.length + 1) W.ws.length W.ks.length W.tr W.tl)) := (Fr.app.tr (Fr.one (Or.inr (by rw [if_pos (by omega)]; exact hx.2.2.2.1)))).tr (Fr.one (Or.inl (by rw [if_pos (by omega)]; exact hx.1)))
  refine ⟨(((h ++ [C, R]).set 5 (105, rvs (g.ca.set W.cs.length (ad h.length)))).set 0 (houC g.p (W.cs.length + 1) W.ws.length W.ks.length W.tr W.tl), (c.1 + 1 + 1, c.2 + 10 + 6)), ?_, Gh.mk (fun x => if x < h.length then g.own x else 10 + W.cs.length) g.p g.rs (g.ca.set W.cs.length (ad h.length)) g.wa g.ka (fun x => if x = W.cs.length then h.length else g.ci x) g.wi g.ki, ?_, ?_⟩
  · unfold f_X9_map dnew
    rw [needStep_ok hs11, obW_l, wc.g6, ob_s, wle_s (by decide) (by omega), decide_eq_false (by omega), cond_false, ob_s, wc.g2, ob_s, dalen_ad ht wc.carr rfl, ob_s, rvs_len, wc.clen, wlt_s (by omega) (by decide), decide_eq_true h8, cond_true, ob_s, ob_s, ob_s]
    dsimp only
    rw [show nS + h.length + 1 = ad h.length from rfl, dnn_ad, ob_s, chart_init ht hs11, obW_l, hC, hR]
    rw [dastA_rvs (hs := (h ++ [C, R], (c.1 + 1 + 1, c.2 + 10 + 6))) (i := 5) (x := h.length) (as := g.ca) (vs := C.2) (by rw [app_lt (by omega)]; exact wc.carr) (by rw [app_at]; rw [← hC]; rfl) (by have := wc.clen; omega) (by have := wc.clen; omega), ob_s]
    dsimp only
    rw [dgI_ad (k := 6) q0 rfl (show W.cs.length < 4294967296 by omega), ob_s, wadd_s (by omega), hp6 q0, ob_s]
    dsimp only
    rw [dgI_ad (k := 6) q1 rfl (show W.cs.length + 1 < 4294967296 by omega), ob_s, wsub_s (by omega) (by omega), Nat.add_sub_cancel]
    exact dchk_eq (show c.1 ≤ c.1 + 1 + 1 by omega) (show c.2 ≤ c.2 + 10 + 6 by omega)
  · unfold Wd.mapped
    exact WC.mk (house := (by rw [List.length_append]; exact q1)) (rarr := (f.at wc.rarr wc.fx.2.1 (show ¬ ((101) = 100 ∨ (101) = 105) by omega)).1) (rlen := wc.rlen) (rcur := wc.rcur) (rl := (fun k a e => f.rl (show ¬ ((1) = 100 ∨ (1) = 105) by omega) (wc.rl k a e))) (surv := (f.sv (show ¬ ((102) = 100 ∨ (102) = 105) by omega) wc.fx.2.2.1 wc.surv)) (carr := (by rw [List.getElem?_set_ne (by decide)]; exact List.getElem?_set_self (by rw [List.length_append]; omega))) (clen := (by rw [List.length_set]; exact wc.clen)) (cat := (fun x hx2 => by
      rw [List.length_append] at hx2
      show (g.ca.set W.cs.length (ad h.length))[x]? = some (ad (if x = W.cs.length then h.length else g.ci x))
      by_cases e : x = W.cs.length
      · rw [if_pos e, e, List.getElem?_set_self (by have := wc.clen; omega)]
      · rw [if_neg e, List.getElem?_set_ne (fun e2 => e e2.symm)]
        exact wc.cat x (by have : x < W.cs.length + 1 := hx2; omega))) (ch := (fun x hx2 => by
      rw [List.length_append] at hx2
      show ChOk _ _ x (if x = W.cs.length then h.length else g.ci x) ((W.cs ++ [([s], 0)]).getD x ([], 0))
      by_cases e : x = W.cs.length
      · subst e
        rw [if_pos rfl, gd_end]
        refine ⟨Word.one hs11, if_neg (Nat.lt_irrefl _), if_neg (by omega), 0, 0, 0, 0, 0, chartAt_new hs11 ?_ ?_, Or.inl rfl⟩
        · rw [hL _ (by omega), app_at, hC]
        · rw [hL _ (by omega), hR]
          exact app_ge h _ _ 0
      · have hx3 : x < W.cs.length := by have : x < W.cs.length + 1 := hx2; omega
        rw [if_neg e, gd_lt hx3]
        exact f.ch (show ¬ (10 + x = 100 ∨ 10 + x = 105) by omega) (wc.ch x hx3))) (warr := (f.at wc.warr wc.fx.2.2.2.2.1 (show ¬ ((106) = 100 ∨ (106) = 105) by omega)).1) (wlen := wc.wlen) (wat := wc.wat) (wk := (fun x hx => f.wk (show ¬ ((20 + x) = 100 ∨ (20 + x) = 105) by have hxx : x < W.ws.length := hx; have := wc.lens; omega) (wc.wk x hx))) (karr := (f.at wc.karr wc.fx.2.2.2.2.2.1 (show ¬ ((107) = 100 ∨ (107) = 105) by omega)).1) (klen := wc.klen) (kat := wc.kat) (kl := (fun x hx2 => by
      obtain ⟨k1, k2, k3, k4⟩ := f.kl (show ¬ (30 + x = 100 ∨ 30 + x = 105) by have hxx : x < W.ks.length := hx2; omega) (wc.kl x hx2)
      exact ⟨k1, k2, by rw [List.length_append]; exact Nat.lt_succ_of_lt k3, k4⟩)) (lens := ⟨by rw [List.length_append]; exact h8, hl.2⟩) (fx := (f.fx (fun x hx9 => ⟨by omega, if_pos (by omega)⟩) hx)) (lrf := (f.at wc.lrf wc.fx.2.2.2.2.2.2.1 (show ¬ ((149) = 100 ∨ (149) = 105) by omega)).1) (ltd := (f.at wc.ltd wc.fx.2.2.2.2.2.2.2 (show ¬ ((150) = 100 ∨ (150) = 105) by omega)).1) (lln := wc.lln)
  · exact ⟨congrArg (· + 2) hc.1, congrArg (· + 16) hc.2⟩
theorem walker_init {f k : Nat} (h : List kCel) (c : Nat × Nat) : f_X8_init (ad h.length) f k (h ++ [(c_X8, [.int 0, .int 0, .int 0, .int 0, .int 0, .int 0])], c) = some (.inl (), (h ++ [wkC (Wk.mk f k f k 0 0)], c)) := by
  unfold f_X8_init
  rw [dnn_ad, ob_s, dput_app (Nat.le_of_ble_eq_true rfl) rfl, ob_s, dput_app (Nat.le_of_ble_eq_true rfl) rfl, ob_s, dput_app (Nat.le_of_ble_eq_true rfl) rfl, ob_s, dput_app (Nat.le_of_ble_eq_true rfl) rfl, ob_s]
  exact dchk_same
def Wd.walked (W : Wd) (f k : Nat) : Wd := Wd.mk W.n W.cs (W.ws ++ [Wk.mk f k f k 0 0]) W.ks W.tr W.tl W.rf W.td (W.rc + 1) (W.rl + 6)
theorem walker_ok (ht : tb.length = nS) (w : World hs W) {f k : Nat} (hf : f < 3) (hk : k < cnt W.n f) (h4 : W.ws.length < 4) : Ans (f_X9_walker tb (ad 0) f ((cds W.n f).getD k 0) hs) W.ws.length (W.walked f k) := by
  obtain ⟨g, wc, hc⟩ := w
  obtain ⟨h, c⟩ := hs
  replace wc : WC h W g := wc
  have hl := wc.lens
  have hx := wc.fx
  have hh := wc.hlen
  have c9 := (wc.c120 hf).1
  generalize hC : wkC (Wk.mk f k f k 0 0) = C
  have q0 : ((h ++ [C]).set 6 (106, rvs (g.wa.set W.ws.length (ad h.length))))[0]? = some (houC g.p W.cs.length W.ws.length W.ks.length W.tr W.tl) := by
    rw [List.getElem?_set_ne (by decide), app_lt (by omega)]; exact wc.house
  have q1 : (((h ++ [C]).set 6 (106, rvs (g.wa.set W.ws.length (ad h.length)))).set 0 (houC g.p W.cs.length (W.ws.length + 1) W.ks.length W.tr W.tl))[0]? = some (houC g.p W.cs.length (W.ws.length + 1) W.ks.length W.tr W.tl) := List.getElem?_set_self (lt_of_at q0)
  have hL : ∀ x, 8 ≤ x → (((h ++ [C]).set 6 (106, rvs (g.wa.set W.ws.length (ad h.length)))).set 0 (houC g.p W.cs.length (W.ws.length + 1) W.ks.length W.tr W.tl))[x]? = (h ++ [C])[x]? := fun x hx => by
    rw [List.getElem?_set_ne (by omega), List.getElem?_set_ne (by omega)]
  have f9 : Fr (fun o => o = 100 ∨ o = 106) g.own (fun x => if x < h.length then g.own x else 20 + W.ws.length) h (((h ++ [C]).set 6 (106, rvs (g.wa.set W.ws.length (ad h.length)))).set 0 (houC g.p W.cs.length (W.ws.length + 1) W.ks.length W.tr W.tl)) := (Fr.app.tr (Fr.one (Or.inr (by rw [if_pos (by omega)]; exact hx.2.2.2.2.1)))).tr (Fr.one (Or.inl (by rw [if_pos (by omega)]; exact hx.1)))
  refine ⟨(((h ++ [C]).set 6 (106, rvs (g.wa.set W.ws.length (ad h.length)))).set 0 (houC g.p W.cs.length (W.ws.length + 1) W.ks.length W.tr W.tl), (c.1 + 1, c.2 + 6)), ?_, Gh.mk (fun x => if x < h.length then g.own x else 20 + W.ws.length) g.p g.rs g.ca (g.wa.set W.ws.length (ad h.length)) g.ka g.ci (fun x => if x = W.ws.length then h.length else g.wi x) g.ki, ?_, ?_⟩
  · unfold f_X9_walker dnew
    rw [needFamily_ok hf, obW_l, wc.g5, ob_s, wc.Rl.1.tag, ob_s, wc.rankOf ht hf hk, ob_s, weq_s (by omega) (by decide), decide_eq_false (by omega), Bool.not_false, cond_true, wc.g7, ob_s, wle_s (by decide) (by omega), decide_eq_false (by omega), cond_false, ob_s, wc.g3, ob_s, dalen_ad ht wc.warr rfl, ob_s, rvs_len, wc.wlen, wlt_s (by omega) (by decide), decide_eq_true h4, cond_true, ob_s, ob_s, ob_s]
    dsimp only
    rw [show nS + h.length + 1 = ad h.length from rfl, dnn_ad, ob_s, walker_init, obW_l, hC]
    rw [dastA_rvs (hs := (h ++ [C], (c.1 + 1, c.2 + 6))) (i := 6) (x := h.length) (as := g.wa) (vs := C.2) (by rw [app_lt (by omega)]; exact wc.warr) (by rw [app_at]; rw [← hC]; rfl) (by have := wc.wlen; omega) (by have := wc.wlen; omega), ob_s]
    dsimp only
    rw [dgI_ad (k := 7) q0 rfl (show W.ws.length < 4294967296 by omega), ob_s, wadd_s (by omega), hp7 q0, ob_s]
    dsimp only
    rw [dgI_ad (k := 7) q1 rfl (show W.ws.length + 1 < 4294967296 by omega), ob_s, wsub_s (by omega) (by omega), Nat.add_sub_cancel]
    exact dchk_eq (show c.1 ≤ c.1 + 1 by omega) (show c.2 ≤ c.2 + 6 by omega)
  · unfold Wd.walked
    exact WC.mk (house := (by rw [List.length_append]; exact q1)) (rarr := (f9.at wc.rarr wc.fx.2.1 (show ¬ ((101) = 100 ∨ (101) = 106) by omega)).1) (rlen := wc.rlen) (rcur := wc.rcur) (rl := (fun k a e => f9.rl (show ¬ ((1) = 100 ∨ (1) = 106) by omega) (wc.rl k a e))) (surv := (f9.sv (show ¬ ((102) = 100 ∨ (102) = 106) by omega) wc.fx.2.2.1 wc.surv)) (carr := (f9.at wc.carr wc.fx.2.2.2.1 (show ¬ ((105) = 100 ∨ (105) = 106) by omega)).1) (clen := wc.clen) (cat := wc.cat) (ch := (fun x hx => f9.ch (show ¬ ((10 + x) = 100 ∨ (10 + x) = 106) by have hxx : x < W.cs.length := hx; have := wc.lens; omega) (wc.ch x hx))) (warr := (by rw [List.getElem?_set_ne (by decide)]; exact List.getElem?_set_self (by rw [List.length_append]; omega))) (wlen := (by rw [List.length_set]; exact wc.wlen)) (wat := (fun x hx2 => by
      rw [List.length_append] at hx2
      show (g.wa.set W.ws.length (ad h.length))[x]? = some (ad (if x = W.ws.length then h.length else g.wi x))
      by_cases e : x = W.ws.length
      · rw [if_pos e, e, List.getElem?_set_self (by have := wc.wlen; omega)]
      · rw [if_neg e, List.getElem?_set_ne (fun e2 => e e2.symm)]
        exact wc.wat x (by have : x < W.ws.length + 1 := hx2; omega))) (wk := (fun x hx2 => by
      rw [List.length_append] at hx2
      show WkOk _ _ W.n x (if x = W.ws.length then h.length else g.wi x) ((W.ws ++ [Wk.mk f k f k 0 0]).getD x wk0)
      by_cases e : x = W.ws.length
      · subst e
        rw [if_pos rfl, gd_end]
        exact ⟨if_neg (Nat.lt_irrefl _), by rw [hL _ (by omega), app_at, hC], hf, hk, hf, hk, Nat.le_refl _⟩
      · have hx3 : x < W.ws.length := by have : x < W.ws.length + 1 := hx2; omega
        rw [if_neg e, gd_lt hx3]
        exact f9.wk (show ¬ (20 + x = 100 ∨ 20 + x = 106) by omega) (wc.wk x hx3))) (karr := (f9.at wc.karr wc.fx.2.2.2.2.2.1 (show ¬ ((107) = 100 ∨ (107) = 106) by omega)).1) (klen := wc.klen) (kat := wc.kat) (kl := (fun x hx => f9.kl (show ¬ ((30 + x) = 100 ∨ (30 + x) = 106) by have hxx : x < W.ks.length := hx; have := wc.lens; omega) (wc.kl x hx))) (lens := ⟨hl.1, by rw [List.length_append]; exact h4, hl.2.2.1, hl.2.2.2.1, hl.2.2.2.2.1, fun z hz => by
      rcases List.mem_append.mp hz with hz2 | hz2
      · exact hl.2.2.2.2.2 z hz2
      · rw [List.mem_singleton.mp hz2]; exact Nat.zero_le _⟩) (fx := (f9.fx (fun x hx9 => ⟨by omega, if_pos (by omega)⟩) hx)) (lrf := (f9.at wc.lrf wc.fx.2.2.2.2.2.2.1 (show ¬ ((149) = 100 ∨ (149) = 106) by omega)).1) (ltd := (f9.at wc.ltd wc.fx.2.2.2.2.2.2.2 (show ¬ ((150) = 100 ∨ (150) = 106) by omega)).1) (lln := wc.lln)
  · exact ⟨congrArg (· + 1) hc.1, congrArg (· + 6) hc.2⟩
end MK
