/-! ===== then, claim and size ===== -/
section TN
variable {tb : List (List Int32)} {h : List kCel} {W : Wd} {g : Gh} {c : Nat × Nat} {hs : kHS}
def chX (i f t l cl sv d u r q : Nat) : kCel := (c_X0, [.int (nI f), .int (nI t), .ref (nS + (i + 1)), .int (nI l), .int (nI cl), .int (nI sv), .int (nI d), .int (nI u), .int (nI r), .long (lN q)])
theorem px3 {i f t l cl sv d u r q : Nat} (e : h[i]? = some (chX i f t l cl sv d u r q)) (v : Nat) : dput nS c_X0 3 .int (h, c) (ad i) (.int (nI v)) = some (h.set i (chX i f t v cl sv d u r q), c) := dput_ad (hs := (h, c)) e (Nat.le_of_ble_eq_true rfl) rfl
theorem px1 {i f t l cl sv d u r q : Nat} (e : h[i]? = some (chX i f t l cl sv d u r q)) (v : Nat) : dput nS c_X0 1 .int (h, c) (ad i) (.int (nI v)) = some (h.set i (chX i f v l cl sv d u r q), c) := dput_ad (hs := (h, c)) e (Nat.le_of_ble_eq_true rfl) rfl
theorem px5 {i f t l cl sv d u r q : Nat} (e : h[i]? = some (chX i f t l cl sv d u r q)) (v : Nat) : dput nS c_X0 5 .int (h, c) (ad i) (.int (nI v)) = some (h.set i (chX i f t l cl v d u r q), c) := dput_ad (hs := (h, c)) e (Nat.le_of_ble_eq_true rfl) rfl
theorem pad6_set {σ : List Nat} (h : σ.length < 6) (s : Nat) : (pad6 σ).set σ.length s = pad6 (σ ++ [s]) := by
  unfold pad6
  rw [List.length_append, List.length_cons, List.length_nil, show 6 - σ.length = (6 - (σ.length + (0 + 1))) + 1 by omega, List.replicate_succ, app_set, List.append_assoc]
  rfl
theorem pad6_sm {σ : List Nat} (h : ∀ s ∈ σ, s < 11) : sm (pad6 σ) := fun x hx => by
  rcases List.mem_append.mp hx with h1 | h1
  · have := h x h1; omega
  · rw [(List.mem_replicate.mp h1).2]; decide
theorem append_ok (ht : tb.length = nS) {i s cl sv d u r q : Nat} {σ : List Nat} (a : ChartAt h i σ cl sv d u r q) (h6 : σ.length < 6) (hs : s < 11) : ∃ h', f_X0_append tb (ad i) s (h, c) = some (.inl (), (h', c)) ∧ but (fun x => x = i ∨ x = i + 1) h h' ∧ ChartAt h' i (σ ++ [s]) cl 0 d u r q := by
  have h1 := a.2.2.1.1
  have e0 : (h.set (i + 1) (100, ints (pad6 (σ ++ [s]))))[i]? = some (chX i (frm σ) (tto σ) σ.length cl sv d u r q) := by rw [List.getElem?_set_ne (by omega)]; exact a.1
  have e1 : ((h.set (i + 1) (100, ints (pad6 (σ ++ [s])))).set i (chX i (frm σ) (tto σ) (σ.length + 1) cl sv d u r q))[i]? = some (chX i (frm σ) (tto σ) (σ.length + 1) cl sv d u r q) := List.getElem?_set_self (lt_of_at e0)
  have e2 : (((h.set (i + 1) (100, ints (pad6 (σ ++ [s])))).set i (chX i (frm σ) (tto σ) (σ.length + 1) cl sv d u r q)).set i (chX i (frm σ) (st s) (σ.length + 1) cl sv d u r q))[i]? = some (chX i (frm σ) (st s) (σ.length + 1) cl sv d u r q) := List.getElem?_set_self (lt_of_at e1)
  refine ⟨(((h.set (i + 1) (100, ints (pad6 (σ ++ [s])))).set i (chX i (frm σ) (tto σ) (σ.length + 1) cl sv d u r q)).set i (chX i (frm σ) (st s) (σ.length + 1) cl sv d u r q)).set i (chX i (frm σ) (st s) (σ.length + 1) cl 0 d u r q), ?_, ?_, ?_⟩
  · unfold f_X0_append
    dsimp only
    rw [a.steps, ob_s, a.len, ob_s, put_row ht (hs := (h, c)) a.2.1 (by rw [pad6_len (by omega)]; exact h6) (by rw [pad6_len (by omega)]; decide), obW_l]
    dsimp only
    rw [pad6_set h6, dgI_ad (k := 3) (x := σ.length) e0 rfl (by omega), ob_s, wadd_s (by omega), px3 e0, ob_s, d1_ok s hs, ob_s, px1 e1, ob_s, px5 e2, ob_s]
    exact dchk_same
  · exact (((but.set (X := fun x => x = i ∨ x = i + 1) (Or.inr rfl)).tr (but.set (Or.inl rfl))).tr (but.set (Or.inl rfl))).tr (but.set (Or.inl rfl))
  · refine ⟨?_, ?_, ⟨by rw [List.length_append]; omega, by rw [List.length_append, List.length_cons, List.length_nil]; omega, fun x hx => ?_⟩, ⟨a.2.2.2.1, by omega, a.2.2.2.2.2⟩⟩
    · rw [List.getElem?_set_self (lt_of_at e2), frm_snoc h1, tto_snoc, List.length_append]
      rfl
    · rw [List.getElem?_set_ne (by omega), List.getElem?_set_ne (by omega), List.getElem?_set_ne (by omega), List.getElem?_set_self (lt_of_at a.2.1)]
    · rcases List.mem_append.mp hx with h3 | h3
      · exact a.2.2.1.2.2 x h3
      · rw [List.mem_singleton.mp h3]; exact hs
theorem sf_nx {t b : Nat} (h : t < 3) (hb : b < 2) : sf (nx t b) = t := by
  rcases (show t = 0 ∨ t = 1 ∨ t = 2 by omega) with rfl | rfl | rfl <;> rcases (show b = 0 ∨ b = 1 by omega) with rfl | rfl <;> rfl
def Wd.thened (W : Wd) (j s : Nat) : Wd := Wd.mk W.n (W.cs.set j (W.sg j ++ [s], 0)) W.ws W.ks W.tr W.tl W.rf W.td W.rc W.rl
theorem then_ok (ht : tb.length = nS) (w : World hs W) {j b : Nat} (hj : j < W.cs.length) (h6 : (W.sg j).length < 6) (hcl : W.cl j = 0) (hb : b < 2) : Ans (f_X9_then tb (ad 0) j (nx (tto (W.sg j)) b) hs) ((W.sg j).length + 1) (W.thened j (nx (tto (W.sg j)) b)) := by
  obtain ⟨g, wc, hc⟩ := w
  obtain ⟨h, c⟩ := hs
  replace wc : WC h W g := wc
  obtain ⟨w1, o1, o2, sv, d, u, r, q, a, _⟩ : Word (W.sg j) ∧ g.own (g.ci j) = 10 + j ∧ g.own (g.ci j + 1) = 10 + j ∧ ∃ sv d u r q, ChartAt h (g.ci j) (W.sg j) (W.cl j) sv d u r q ∧ _ := wc.ch j hj
  have hl := wc.lens
  have hs11 := nx_lt (tto (W.sg j)) hb
  have hsf := sf_nx (tto_lt (W.sg j)) hb
  have hw2 := w1.snoc h6 hb
  generalize nx (tto (W.sg j)) b = s at hs11 hsf hw2 ⊢
  obtain ⟨h', e1, e2, e3⟩ := append_ok (c := c) ht a h6 hs11
  have f : Fr (fun o => o = 10 + j) g.own g.own h h' := Fr.of_but e2 (fun x hX => by
    rcases hX with rfl | rfl
    · exact o1
    · exact o2)
  refine ⟨(h', c), ?_, g, ?_, hc⟩
  · unfold f_X9_then
    rw [wc.tag, ob_s, wc.chartAt ht hj, obW_l, needStep_ok hs11, obW_l, a.len, ob_s, wlt_s (by omega) (by decide), decide_eq_true h6, cond_true, a.claimed, ob_s, hcl, show weq 0 0 = true from rfl, cond_true, d0_ok s hs11, ob_s, a.to_, ob_s, hsf, weq_s (by have := tto_lt (W.sg j); omega) (by have := tto_lt (W.sg j); omega), decide_eq_true rfl, cond_true, a.tag, ob_s, e1, obW_l, e3.len, ob_s, List.length_append]
    exact dchk_same
  · unfold Wd.thened
    exact WC.mk (house := (by rw [List.length_set]; exact (f.at wc.house wc.fx.1 (show ¬ (100 = 10 + j) by omega)).1)) (rarr := (f.at wc.rarr wc.fx.2.1 (show ¬ ((101) = 10 + j) by omega)).1) (rlen := wc.rlen) (rcur := wc.rcur) (rl := (fun k a e => f.rl (show ¬ ((1) = 10 + j) by omega) (wc.rl k a e))) (surv := (f.sv (show ¬ ((102) = 10 + j) by omega) wc.fx.2.2.1 wc.surv)) (carr := (f.at wc.carr wc.fx.2.2.2.1 (show ¬ ((105) = 10 + j) by omega)).1) (clen := wc.clen) (cat := (fun x hx2 => wc.cat x (by rw [List.length_set] at hx2; exact hx2))) (ch := (fun x hx2 => by
      rw [List.length_set] at hx2
      show ChOk _ _ x (g.ci x) ((W.cs.set j (W.sg j ++ [s], 0)).getD x ([], 0))
      by_cases e : x = j
      · subst e
        rw [gd_self hx2]
        rw [hcl] at e3
        exact ⟨hw2, o1, o2, _, _, _, _, _, e3, Or.inl rfl⟩
      · rw [gd_ne e]
        exact f.ch (show ¬ (10 + x = 10 + j) by omega) (wc.ch x hx2))) (warr := (f.at wc.warr wc.fx.2.2.2.2.1 (show ¬ ((106) = 10 + j) by omega)).1) (wlen := wc.wlen) (wat := wc.wat) (wk := (fun x hx => f.wk (show ¬ ((20 + x) = 10 + j) by have hxx : x < W.ws.length := hx; have := wc.lens; omega) (wc.wk x hx))) (karr := (f.at wc.karr wc.fx.2.2.2.2.2.1 (show ¬ ((107) = 10 + j) by omega)).1) (klen := wc.klen) (kat := wc.kat) (kl := (fun x hx2 => by
      obtain ⟨k1, k2, k3, k4⟩ := f.kl (show ¬ (30 + x = 10 + j) by omega) (wc.kl x hx2)
      exact ⟨k1, k2, by rw [List.length_set]; exact k3, k4⟩)) (lens := ⟨by rw [List.length_set]; exact hl.1, hl.2⟩) (fx := wc.fx) (lrf := (f.at wc.lrf wc.fx.2.2.2.2.2.2.1 (show ¬ ((149) = 10 + j) by omega)).1) (ltd := (f.at wc.ltd wc.fx.2.2.2.2.2.2.2 (show ¬ ((150) = 10 + j) by omega)).1) (lln := wc.lln)
theorem claim_init {a b d : Nat} (h : List kCel) (c : Nat × Nat) : f_X1_init (ad h.length) a b d (h ++ [(c_X1, [.int 0, .int 0, .int 0, .int 0, .int 0])], c) = some (.inl (), (h ++ [klC (Kl.mk a b d 0 0)], c)) := by
  unfold f_X1_init
  rw [dnn_ad, ob_s, dput_app (Nat.le_of_ble_eq_true rfl) rfl, ob_s, dput_app (Nat.le_of_ble_eq_true rfl) rfl, ob_s, dput_app (Nat.le_of_ble_eq_true rfl) rfl, ob_s]
  exact dchk_same
def Wd.claimd (W : Wd) (j a b : Nat) : Wd := Wd.mk W.n (W.cs.set j (W.sg j, 1)) W.ws (W.ks ++ [Kl.mk j a b 0 0]) W.tr W.tl W.rf W.td (W.rc + 1) (W.rl + 5)
theorem Wd.claimd_kl (W : Wd) (j a b : Nat) : (W.claimd j a b).kl W.ks.length = Kl.mk j a b 0 0 := gd_end
theorem claim_ok (ht : tb.length = nS) (w : World hs W) {j a b : Nat} (hj : j < W.cs.length) (ha : a < 4) (hb : b < 4) (h8 : W.ks.length < 8) (htl : W.tl < 999999) : Ans (f_X9_claim tb (ad 0) j a b hs) W.ks.length ((W.claimd j a b).tried W.ks.length) := by
  obtain ⟨g, wc, hc⟩ := w
  obtain ⟨h, c⟩ := hs
  replace wc : WC h W g := wc
  have hl := wc.lens
  have hx := wc.fx
  have hh := wc.hlen
  generalize hC : klC (Kl.mk j a b 0 0) = C
  have q0 : ((h ++ [C]).set 7 (107, rvs (g.ka.set W.ks.length (ad h.length))))[0]? = some (houC g.p W.cs.length W.ws.length W.ks.length W.tr W.tl) := by
    rw [List.getElem?_set_ne (by decide), app_lt (by omega)]; exact wc.house
  have q1 : (((h ++ [C]).set 7 (107, rvs (g.ka.set W.ks.length (ad h.length)))).set 0 (houC g.p W.cs.length W.ws.length (W.ks.length + 1) W.tr W.tl))[0]? = some (houC g.p W.cs.length W.ws.length (W.ks.length + 1) W.tr W.tl) := List.getElem?_set_self (lt_of_at q0)
  have f1 : Fr (fun o => o = 100 ∨ o = 107) g.own (fun x => if x < h.length then g.own x else 30 + W.ks.length) h (((h ++ [C]).set 7 (107, rvs (g.ka.set W.ks.length (ad h.length)))).set 0 (houC g.p W.cs.length W.ws.length (W.ks.length + 1) W.tr W.tl)) := (Fr.app.tr (Fr.one (Or.inr (by rw [if_pos (by omega)]; exact hx.2.2.2.2.2.1)))).tr (Fr.one (Or.inl (by rw [if_pos (by omega)]; exact hx.1)))
  obtain ⟨w1, o1, o2, sv, d, u, r, q, z, hz⟩ := f1.ch (show ¬ (10 + j = 100 ∨ 10 + j = 107) by omega) (wc.ch j hj)
  have hK : (((h ++ [C]).set 7 (107, rvs (g.ka.set W.ks.length (ad h.length)))).set 0 (houC g.p W.cs.length W.ws.length (W.ks.length + 1) W.tr W.tl))[h.length]? = some C := by
    rw [List.getElem?_set_ne (by omega), List.getElem?_set_ne (by omega), app_at]
  have h7 : (((h ++ [C]).set 7 (107, rvs (g.ka.set W.ks.length (ad h.length)))).set 0 (houC g.p W.cs.length W.ws.length (W.ks.length + 1) W.tr W.tl))[7]? = some (107, rvs (g.ka.set W.ks.length (ad h.length))) := by
    rw [List.getElem?_set_ne (by decide), List.getElem?_set_self (by rw [List.length_append]; omega)]
  have hLen : h.length < (((h ++ [C]).set 7 (107, rvs (g.ka.set W.ks.length (ad h.length)))).set 0 (houC g.p W.cs.length W.ws.length (W.ks.length + 1) W.tr W.tl)).length := lt_of_at hK
  have call1 : dastA nS 107 c_X1 (h ++ [C], (c.1 + 1, c.2 + 5)) (ad 7) W.ks.length (ad h.length) = some ((h ++ [C]).set 7 (107, rvs (g.ka.set W.ks.length (ad h.length))), (c.1 + 1, c.2 + 5)) :=
    dastA_rvs (hs := (h ++ [C], (c.1 + 1, c.2 + 5))) (i := 7) (x := h.length) (as := g.ka) (vs := C.2) (by rw [app_lt (by omega)]; exact wc.karr) (by rw [app_at]; rw [← hC]; rfl) (by have := wc.klen; omega) (by have := wc.klen; omega)
  have call2 : dput nS c_X9 8 .int ((h ++ [C]).set 7 (107, rvs (g.ka.set W.ks.length (ad h.length))), (c.1 + 1, c.2 + 5)) (ad 0) (.int (nI (W.ks.length + 1))) = some ((((h ++ [C]).set 7 (107, rvs (g.ka.set W.ks.length (ad h.length)))).set 0 (houC g.p W.cs.length W.ws.length (W.ks.length + 1) W.tr W.tl)), (c.1 + 1, c.2 + 5)) := hp8 q0 _
  have call3 : dgI nS c_X9 8 ((h ++ [C]).set 7 (107, rvs (g.ka.set W.ks.length (ad h.length)))) (ad 0) = some W.ks.length := dgI_ad (k := 8) q0 rfl (by omega)
  generalize (((h ++ [C]).set 7 (107, rvs (g.ka.set W.ks.length (ad h.length)))).set 0 (houC g.p W.cs.length W.ws.length (W.ks.length + 1) W.tr W.tl)) = H1 at q1 f1 z hK h7 hLen call2
  have i0 : g.ci j ≠ 0 ∧ g.ci j ≠ 7 ∧ g.ci j ≠ h.length := by
    have e1 : g.own (g.ci j) = 10 + j := (wc.ch j hj).2.1
    refine ⟨fun e => by rw [e] at e1; omega, fun e => by rw [e] at e1; omega, fun e => ?_⟩
    rw [e] at o1
    have o3 : (if h.length < h.length then g.own h.length else 30 + W.ks.length) = 10 + j := o1
    rw [if_neg (Nat.lt_irrefl _)] at o3
    omega
  have z2 := z.set (cl' := 1) (sv' := sv) (d' := d) (u' := u) (r' := r) (q' := q) ⟨Nat.le_refl _, z.2.2.2.2⟩
  have f : Fr (fun o => o = 100 ∨ o = 107 ∨ o = 10 + j) g.own (fun x => if x < h.length then g.own x else 30 + W.ks.length) h (H1.set (g.ci j) (chC (g.ci j) (W.sg j) 1 sv d u r q)) := by
    have f2 : Fr (fun o => o = 100 ∨ o = 107 ∨ o = 10 + j) g.own (fun x => if x < h.length then g.own x else 30 + W.ks.length) h H1 := ⟨f1.1, fun x hx hn => f1.2 x hx (fun h => hn (h.elim Or.inl fun h => Or.inr (Or.inl h)))⟩
    exact f2.tr (Fr.one (Or.inr (Or.inr o1)))
  have w2 : WC (H1.set (g.ci j) (chC (g.ci j) (W.sg j) 1 sv d u r q)) (W.claimd j a b) (Gh.mk (fun x => if x < h.length then g.own x else 30 + W.ks.length) g.p g.rs g.ca g.wa (g.ka.set W.ks.length (ad h.length)) g.ci g.wi (fun x => if x = W.ks.length then h.length else g.ki x)) := by
    unfold Wd.claimd
    exact WC.mk (house := (by rw [List.length_append, List.length_set, List.getElem?_set_ne i0.1]; exact q1)) (rarr := (f.at wc.rarr wc.fx.2.1 (show ¬ ((101) = 100 ∨ (101) = 107 ∨ (101) = 10 + j) by omega)).1) (rlen := wc.rlen) (rcur := wc.rcur) (rl := (fun k a e => f.rl (show ¬ ((1) = 100 ∨ (1) = 107 ∨ (1) = 10 + j) by omega) (wc.rl k a e))) (surv := (f.sv (show ¬ ((102) = 100 ∨ (102) = 107 ∨ (102) = 10 + j) by omega) wc.fx.2.2.1 wc.surv)) (carr := (f.at wc.carr wc.fx.2.2.2.1 (show ¬ ((105) = 100 ∨ (105) = 107 ∨ (105) = 10 + j) by omega)).1) (clen := wc.clen) (cat := (fun x hx2 => wc.cat x (by rw [List.length_set] at hx2; exact hx2))) (ch := (fun x hx2 => by
      rw [List.length_set] at hx2
      show ChOk _ _ x (g.ci x) ((W.cs.set j (W.sg j, 1)).getD x ([], 0))
      by_cases e : x = j
      · subst e
        rw [gd_self hx2]
        exact ⟨w1, o1, o2, _, _, _, _, _, z2, hz⟩
      · rw [gd_ne e]
        exact f.ch (show ¬ (10 + x = 100 ∨ 10 + x = 107 ∨ 10 + x = 10 + j) by omega) (wc.ch x hx2))) (warr := (f.at wc.warr wc.fx.2.2.2.2.1 (show ¬ ((106) = 100 ∨ (106) = 107 ∨ (106) = 10 + j) by omega)).1) (wlen := wc.wlen) (wat := wc.wat) (wk := (fun x hx => f.wk (show ¬ ((20 + x) = 100 ∨ (20 + x) = 107 ∨ (20 + x) = 10 + j) by have hxx : x < W.ws.length := hx; have := wc.lens; omega) (wc.wk x hx))) (karr := (by rw [List.getElem?_set_ne i0.2.1]; exact h7)) (klen := (by rw [List.length_set]; exact wc.klen)) (kat := (fun x hx2 => by
      rw [List.length_append] at hx2
      show (g.ka.set W.ks.length (ad h.length))[x]? = some (ad (if x = W.ks.length then h.length else g.ki x))
      by_cases e : x = W.ks.length
      · rw [if_pos e, e, List.getElem?_set_self (by have := wc.klen; omega)]
      · rw [if_neg e, List.getElem?_set_ne (fun e2 => e e2.symm)]
        exact wc.kat x (by have : x < W.ks.length + 1 := hx2; omega))) (kl := (fun x hx2 => by
      rw [List.length_append] at hx2
      show KlOk _ _ (W.cs.set j (W.sg j, 1)).length x (if x = W.ks.length then h.length else g.ki x) ((W.ks ++ [Kl.mk j a b 0 0]).getD x kl0)
      rw [List.length_set]
      by_cases e : x = W.ks.length
      · subst e
        rw [if_pos rfl, gd_end]
        refine ⟨if_neg (Nat.lt_irrefl _), ?_, hj, ha, hb, (show 0 < 64 by decide), (show 0 < 64 by decide)⟩
        rw [List.getElem?_set_ne i0.2.2, hK, hC]
      · have hx3 : x < W.ks.length := by have : x < W.ks.length + 1 := hx2; omega
        rw [if_neg e, gd_lt hx3]
        exact f.kl (show ¬ (30 + x = 100 ∨ 30 + x = 107 ∨ 30 + x = 10 + j) by omega) (wc.kl x hx3))) (lens := ⟨by rw [List.length_set]; exact hl.1, hl.2.1, by rw [List.length_append]; exact h8, hl.2.2.2⟩) (fx := (f.fx (fun x hx9 => ⟨by omega, if_pos (by omega)⟩) hx)) (lrf := (f.at wc.lrf wc.fx.2.2.2.2.2.2.1 (show ¬ ((149) = 100 ∨ (149) = 107 ∨ (149) = 10 + j) by omega)).1) (ltd := (f.at wc.ltd wc.fx.2.2.2.2.2.2.2 (show ¬ ((150) = 100 ∨ (150) = 107 ∨ (150) = 10 + j) by omega)).1) (lln := wc.lln)
  obtain ⟨h', e1, e2⟩ := w2.tryClaim (c := (c.1 + 1, c.2 + 5)) ht (i := W.ks.length) (by show W.ks.length < (W.ks ++ [Kl.mk j a b 0 0]).length; rw [List.length_append]; exact Nat.lt_succ_self _) htl
  refine ⟨(h', (c.1 + 1, c.2 + 5)), ?_, _, e2, congrArg (· + 1) hc.1, congrArg (· + 5) hc.2⟩
  rw [Wd.claimd_kl] at e1
  rw [show (Gh.ki (Gh.mk (fun x => if x < h.length then g.own x else 30 + W.ks.length) g.p g.rs g.ca g.wa (g.ka.set W.ks.length (ad h.length)) g.ci g.wi (fun x => if x = W.ks.length then h.length else g.ki x)) W.ks.length) = h.length from if_pos rfl] at e1
  unfold f_X9_claim dnew
  rw [wc.tag, ob_s, wc.chartAt ht hj, obW_l, needStatistic_ok ha, obW_l, needStatistic_ok hb, obW_l, wc.g8, ob_s, wle_s (by decide) (by omega), decide_eq_false (by omega), cond_false, ob_s, wc.g4, ob_s, dalen_ad ht wc.karr rfl, ob_s, rvs_len, wc.klen, wlt_s (by omega) (by decide), decide_eq_true h8, cond_true, ob_s]
  dsimp only
  rw [show nS + h.length + 1 = ad h.length from rfl, dnn_ad, ob_s, claim_init, obW_l, hC]
  dsimp only
  rw [show dgR nS c_X9 4 (h ++ [C]) (ad 0) = some (ad 7) from dgR_ad (k := 4) (by rw [app_lt (by omega)]; exact wc.house) rfl, ob_s, show dgI nS c_X9 8 (h ++ [C]) (ad 0) = some W.ks.length from dgI_ad (k := 8) (by rw [app_lt (by omega)]; exact wc.house) rfl (by omega), ob_s, call1, ob_s]
  dsimp only
  rw [call3, ob_s, wadd_s (by omega), call2, ob_s, z.p4, ob_s]
  dsimp only
  rw [w2.tag, ob_s, e1, obW_l]
  dsimp only
  rw [e2.g8, ob_s, show (Wd.ks ((W.claimd j a b).tried W.ks.length)).length = W.ks.length + 1 by
    unfold Wd.tried Wd.claimd
    show (List.set _ _ _).length = _
    rw [List.length_set]
    exact List.length_append, wsub_s (by omega) (by omega), Nat.add_sub_cancel]
  exact dchk_eq (show c.1 ≤ c.1 + 1 by omega) (show c.2 ≤ c.2 + 5 by omega)
end TN
