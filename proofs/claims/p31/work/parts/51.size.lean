/-! ===== another size ===== -/
section SZ
variable {tb : List (List Int32)} {h : List kCel} {W : Wd} {g : Gh} {c : Nat × Nat} {hs : kHS}
def Wd.sized (W : Wd) (n x y : Nat) : Wd := Wd.mk n W.cs [] W.ks W.tr W.tl W.rf W.td (W.rc + x) (W.rl + y)
theorem ocn_le {n : Nat} (h1 : 1 ≤ n) (h2 : n ≤ 5) : ocn n ≤ 120 ∧ pcn n ≤ 42 := by
  rcases (show n = 1 ∨ n = 2 ∨ n = 3 ∨ n = 4 ∨ n = 5 by omega) with rfl | rfl | rfl | rfl | rfl <;> decide
theorem WC.sized (w : WC h W g) {n p : Nat} (x9 y9 : Nat) {h' : List kCel} {own' : Nat → Nat} {rs : List Nat} (f : Fr (fun o => o = 100 ∨ o = 101) g.own own' h h') (hfx : ∀ x, x < h.length → own' x = g.own x) (e0 : h'[0]? = some (houC p W.cs.length 0 W.ks.length W.tr W.tl)) (e1 : h'[1]? = some (108, rvs rs)) (e2 : rs.length = 7) (e3 : rs[n]? = some (ad p)) (e4 : ∀ k a, rs[k]? = some a → RlOk h' own' k a) : WC h' (W.sized n x9 y9) (Gh.mk own' p rs g.ca g.wa g.ka g.ci g.wi g.ki) := by
  have hh := w.hlen
  have hl := w.lens
  unfold Wd.sized
  exact WC.mk (house := e0) (rarr := e1) (rlen := e2) (rcur := e3) (rl := e4) (surv := (f.sv (show ¬ ((102) = 100 ∨ (102) = 101) by omega) w.fx.2.2.1 w.surv)) (carr := (f.at w.carr w.fx.2.2.2.1 (show ¬ ((105) = 100 ∨ (105) = 101) by omega)).1) (clen := w.clen) (cat := w.cat) (ch := (fun x hx => f.ch (show ¬ ((10 + x) = 100 ∨ (10 + x) = 101) by have hxx : x < W.cs.length := hx; have := w.lens; omega) (w.ch x hx))) (warr := (f.at w.warr w.fx.2.2.2.2.1 (show ¬ ((106) = 100 ∨ (106) = 101) by omega)).1) (wlen := w.wlen) (wat := (fun x hx => absurd hx (Nat.not_lt_zero _))) (wk := (fun x hx => absurd hx (Nat.not_lt_zero _))) (karr := (f.at w.karr w.fx.2.2.2.2.2.1 (show ¬ ((107) = 100 ∨ (107) = 101) by omega)).1) (klen := w.klen) (kat := w.kat) (kl := (fun x hx => f.kl (show ¬ ((30 + x) = 100 ∨ (30 + x) = 101) by have hxx : x < W.ks.length := hx; have := w.lens; omega) (w.kl x hx))) (lens := ⟨hl.1, Nat.zero_le _, hl.2.2.1, hl.2.2.2.1, hl.2.2.2.2.1, fun z hz => absurd hz List.not_mem_nil⟩) (fx := (f.fx (fun x hx9 => ⟨by omega, hfx x (by omega)⟩) w.fx)) (lrf := (f.at w.lrf w.fx.2.2.2.2.2.2.1 (show ¬ ((149) = 100 ∨ (149) = 101) by omega)).1) (ltd := (f.at w.ltd w.fx.2.2.2.2.2.2.2 (show ¬ ((150) = 100 ∨ (150) = 101) by omega)).1) (lln := w.lln)
theorem size_ok (ht : tb.length = nS) (w : World hs W) {n : Nat} (h1 : 1 ≤ n) (h2 : n ≤ 5) : ∃ x y, x ≤ 41 ∧ y ≤ 4000 ∧ Ans (f_X9_size tb (ad 0) n hs) W.ws.length (W.sized n x y) := by
  obtain ⟨g, wc, hc⟩ := w
  obtain ⟨h, c⟩ := hs
  replace wc : WC h W g := wc
  have hl := wc.lens
  have hx := wc.fx
  have hh := wc.hlen
  have hr := wc.rlen
  have ha : g.rs[n]? = some (g.rs.getD n 0) := getD_at (by omega)
  rcases wc.rl n _ ha with h0 | ⟨p, hp, r1, r2, r3⟩
  · rw [h0] at ha
    obtain ⟨H, e1, e2, e3, e4⟩ := realm_of (tb := tb) ht (good_n n h1 h2) h c.1 c.2
    have ho := ocn_le h1 h2
    have q0 : H[0]? = some (houC g.p W.cs.length W.ws.length W.ks.length W.tr W.tl) := by rw [e4 0 (by omega)]; exact wc.house
    have q1 : H[1]? = some (108, rvs g.rs) := by rw [e4 1 (by omega)]; exact wc.rarr
    have p0 : (H.set 1 (108, rvs (g.rs.set n (ad h.length))))[0]? = some (houC g.p W.cs.length W.ws.length W.ks.length W.tr W.tl) := by rw [List.getElem?_set_ne (by decide)]; exact q0
    have p1 : ((H.set 1 (108, rvs (g.rs.set n (ad h.length)))).set 0 (houC h.length W.cs.length W.ws.length W.ks.length W.tr W.tl))[0]? = some (houC h.length W.cs.length W.ws.length W.ks.length W.tr W.tl) := List.getElem?_set_self (lt_of_at p0)
    have f0 : Fr (fun o => o = 100 ∨ o = 101) g.own (fun x => if x < h.length then g.own x else 1) h H := ⟨by omega, fun x hx _ => ⟨e4 x hx, if_pos hx⟩⟩
    have f1 : Fr (fun o => o = 100 ∨ o = 101) (fun x => if x < h.length then g.own x else 1) (fun x => if x < h.length then g.own x else 1) H ((((H.set 1 (108, rvs (g.rs.set n (ad h.length)))).set 0 (houC h.length W.cs.length W.ws.length W.ks.length W.tr W.tl))).set 0 (houC h.length W.cs.length 0 W.ks.length W.tr W.tl)) := ((Fr.one (Or.inr (by rw [if_pos (by omega)]; exact hx.2.1))).tr (Fr.one (Or.inl (by rw [if_pos (by omega)]; exact hx.1)))).tr (Fr.one (Or.inl (by rw [if_pos (by omega)]; exact hx.1)))
    have hr0 : RlOk H (fun x => if x < h.length then g.own x else 1) n (ad h.length) := Or.inr ⟨h.length, rfl, ⟨e2, h1, h2⟩, by omega, fun x a b => if_neg (by omega)⟩
    refine ⟨41, 6 + (pcn n + ocn n + 11 + 11 * ocn n + 12 + 12 * ocn n + 12 + 12 * 37), Nat.le_refl _, by omega, ((((H.set 1 (108, rvs (g.rs.set n (ad h.length)))).set 0 (houC h.length W.cs.length W.ws.length W.ks.length W.tr W.tl))).set 0 (houC h.length W.cs.length 0 W.ks.length W.tr W.tl), (c.1 + 41, c.2 + 6 + (pcn n + ocn n + 11 + 11 * ocn n + 12 + 12 * ocn n + 12 + 12 * 37))), ?_, _, wc.sized (n := n) (p := h.length) 41 (6 + (pcn n + ocn n + 11 + 11 * ocn n + 12 + 12 * ocn n + 12 + 12 * 37)) (own' := fun x => if x < h.length then g.own x else 1) (rs := g.rs.set n (ad h.length)) (f0.tr f1) (fun x hx => if_pos hx) (List.getElem?_set_self (lt_of_at p1)) ?_ (by rw [List.length_set]; exact hr) (List.getElem?_set_self (by omega)) ?_, ?_⟩
    · unfold f_X9_size
      rw [wlt_s (by omega) (by decide), decide_eq_false (by omega), cond_false, wlt_s (by decide) (by omega), decide_eq_false (by omega), cond_false, wc.g0, ob_s, dalen_ad ht wc.rarr rfl, ob_s, rvs_len, hr, wlt_s (by omega) (by decide), decide_eq_true (by omega), cond_true, ob_s, daldA_rvs wc.rarr rfl (by omega) ha, ob_s, show Nat.beq 0 0 = true from rfl, cond_true, e1, obW_l]
      dsimp only
      rw [show dgR nS c_X9 0 H (ad 0) = some (ad 1) from dgR_ad q0 rfl, ob_s, dastA_rvs (hs := (H, (c.1 + 41, c.2 + 6 + (pcn n + ocn n + 11 + 11 * ocn n + 12 + 12 * ocn n + 12 + 12 * 37)))) (i := 1) (x := h.length) q1 e2.1 (by omega) (by omega), ob_s, hp5 p0, ob_s]
      dsimp only
      rw [dgI_ad (k := 7) (x := W.ws.length) p1 rfl (by omega), ob_s, hp7 p1, ob_s]
      exact dchk_eq (show c.1 ≤ c.1 + 41 by omega) (show c.2 ≤ c.2 + 6 + (pcn n + ocn n + 11 + 11 * ocn n + 12 + 12 * ocn n + 12 + 12 * 37) by omega)
    · rw [List.getElem?_set_ne (by decide), List.getElem?_set_ne (by decide), List.getElem?_set_self (lt_of_at q1)]
    · intro k a hk
      apply f1.rl (show ¬ (1 = 100 ∨ 1 = 101) by decide)
      by_cases e : k = n
      · subst e
        rw [List.getElem?_set_self (by omega)] at hk
        cases hk
        exact hr0
      · rw [List.getElem?_set_ne (fun e2 => e e2.symm)] at hk
        exact f0.rl (show ¬ (1 = 100 ∨ 1 = 101) by decide) (wc.rl k a hk)
    · have hc1 : c.1 = W.rc := hc.1
      have hc2 : c.2 = W.rl := hc.2
      exact ⟨show c.1 + 41 = W.rc + 41 by omega, show c.2 + 6 + (pcn n + ocn n + 11 + 11 * ocn n + 12 + 12 * ocn n + 12 + 12 * 37) = W.rl + (6 + (pcn n + ocn n + 11 + 11 * ocn n + 12 + 12 * ocn n + 12 + 12 * 37)) by omega⟩
  · rw [hp] at ha
    have p1 : (h.set 0 (houC p W.cs.length W.ws.length W.ks.length W.tr W.tl))[0]? = some (houC p W.cs.length W.ws.length W.ks.length W.tr W.tl) := List.getElem?_set_self (lt_of_at wc.house)
    have f : Fr (fun o => o = 100 ∨ o = 101) g.own g.own h ((h.set 0 (houC p W.cs.length W.ws.length W.ks.length W.tr W.tl)).set 0 (houC p W.cs.length 0 W.ks.length W.tr W.tl)) := (Fr.one (Or.inl hx.1)).tr (Fr.one (Or.inl hx.1))
    refine ⟨0, 0, Nat.zero_le _, Nat.zero_le _, ((h.set 0 (houC p W.cs.length W.ws.length W.ks.length W.tr W.tl)).set 0 (houC p W.cs.length 0 W.ks.length W.tr W.tl), c), ?_, _, wc.sized (n := n) (p := p) 0 0 (own' := g.own) (rs := g.rs) f (fun x _ => rfl) (List.getElem?_set_self (lt_of_at p1)) ?_ hr ha ?_, hc.1, hc.2⟩
    · unfold f_X9_size
      rw [wlt_s (by omega) (by decide), decide_eq_false (by omega), cond_false, wlt_s (by decide) (by omega), decide_eq_false (by omega), cond_false, wc.g0, ob_s, dalen_ad ht wc.rarr rfl, ob_s, rvs_len, hr, wlt_s (by omega) (by decide), decide_eq_true (by omega), cond_true, ob_s, daldA_rvs wc.rarr rfl (by omega) ha, ob_s, ad_ne, cond_false, hp5 wc.house, ob_s]
      dsimp only
      rw [dgI_ad (k := 7) (x := W.ws.length) p1 rfl (by omega), ob_s, hp7 p1, ob_s]
      exact dchk_same
    · rw [List.getElem?_set_ne (by decide), List.getElem?_set_ne (by decide)]
      exact wc.rarr
    · intro k a hk
      exact f.rl (show ¬ (1 = 100 ∨ 1 = 101) by decide) (wc.rl k a hk)
end SZ
