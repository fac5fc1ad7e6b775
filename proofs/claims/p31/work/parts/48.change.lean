/-! ===== what changes the house ===== -/
section GD
variable {α : Type} {l : List α} {v d : α}
theorem gd_self {j : Nat} (h : j < l.length) : (l.set j v).getD j d = v := by
  rw [List.getD_eq_getElem?_getD, List.getElem?_set_self h]
  rfl
theorem gd_ne {j x : Nat} (h : x ≠ j) : (l.set j v).getD x d = l.getD x d := by
  rw [List.getD_eq_getElem?_getD, List.getElem?_set_ne (fun e => h e.symm), ← List.getD_eq_getElem?_getD]
theorem gd_lt {x : Nat} (h : x < l.length) : (l ++ [v]).getD x d = l.getD x d := by
  rw [List.getD_eq_getElem?_getD, List.getElem?_append_left h, ← List.getD_eq_getElem?_getD]
theorem gd_end : (l ++ [v]).getD l.length d = v := by
  rw [List.getD_eq_getElem?_getD, List.getElem?_append_right (Nat.le_refl _), Nat.sub_self]
  rfl
end GD
theorem shl_lt {n : Nat} (h1 : 1 ≤ n) (h2 : n ≤ 5) : wshl 1 n < 64 := by
  rcases (show n = 1 ∨ n = 2 ∨ n = 3 ∨ n = 4 ∨ n = 5 by omega) with rfl | rfl | rfl | rfl | rfl <;> decide
theorem wor_lt {a b : Nat} (ha : a < 64) (hb : b < 64) : wor a b < 64 := Nat.or_lt_two_pow (n := 6) ha hb
section HP
variable {tb : List (List Int32)} {h : List kCel} {W : Wd} {g : Gh} {c : Nat × Nat} {hs : kHS} {p a b k tr tl : Nat}
theorem hp5 (e : h[0]? = some (houC p a b k tr tl)) (v : Nat) : dput nS c_X9 5 (.object "Bijectory$Realm") (h, c) (ad 0) (rv (ad v)) = some (h.set 0 (houC v a b k tr tl), c) := dput_ad (hs := (h, c)) e (Nat.le_of_ble_eq_true rfl) rfl
theorem hp6 (e : h[0]? = some (houC p a b k tr tl)) (v : Nat) : dput nS c_X9 6 .int (h, c) (ad 0) (.int (nI v)) = some (h.set 0 (houC p v b k tr tl), c) := dput_ad (hs := (h, c)) e (Nat.le_of_ble_eq_true rfl) rfl
theorem hp7 (e : h[0]? = some (houC p a b k tr tl)) (v : Nat) : dput nS c_X9 7 .int (h, c) (ad 0) (.int (nI v)) = some (h.set 0 (houC p a v k tr tl), c) := dput_ad (hs := (h, c)) e (Nat.le_of_ble_eq_true rfl) rfl
theorem hp8 (e : h[0]? = some (houC p a b k tr tl)) (v : Nat) : dput nS c_X9 8 .int (h, c) (ad 0) (.int (nI v)) = some (h.set 0 (houC p a b v tr tl), c) := dput_ad (hs := (h, c)) e (Nat.le_of_ble_eq_true rfl) rfl
theorem hp9 (e : h[0]? = some (houC p a b k tr tl)) (v : Nat) : dput nS c_X9 9 .int (h, c) (ad 0) (.int (nI v)) = some (h.set 0 (houC p a b k v tl), c) := dput_ad (hs := (h, c)) e (Nat.le_of_ble_eq_true rfl) rfl
theorem hp10 (e : h[0]? = some (houC p a b k tr tl)) (v : Nat) : dput nS c_X9 10 .int (h, c) (ad 0) (.int (nI v)) = some (h.set 0 (houC p a b k tr v), c) := dput_ad (hs := (h, c)) e (Nat.le_of_ble_eq_true rfl) rfl
theorem kp3 {i : Nat} {z : Kl} (e : h[i]? = some (klC z)) (v : Nat) : dput nS c_X1 3 .int (h, c) (ad i) (.int (nI v)) = some (h.set i (klC (Kl.mk z.m z.w z.o v z.r)), c) := dput_ad (hs := (h, c)) e (Nat.le_of_ble_eq_true rfl) rfl
theorem kp4 {i : Nat} {z : Kl} (e : h[i]? = some (klC z)) (v : Nat) : dput nS c_X1 4 .int (h, c) (ad i) (.int (nI v)) = some (h.set i (klC (Kl.mk z.m z.w z.o z.t v)), c) := dput_ad (hs := (h, c)) e (Nat.le_of_ble_eq_true rfl) rfl
theorem note_ok {i n y : Nat} {z : Kl} (e : h[i]? = some (klC z)) (hy : y ≤ 1) (ht : z.t < 64) (hr : z.r < 64) : f_X1_note (ad i) n y (h, c) = some (.inl (), (h.set i (klC (Kl.mk z.m z.w z.o (wor z.t (wshl 1 n)) (bif Nat.beq y 0 then wor z.r (wshl 1 n) else z.r))), c)) := by
  have e2 : (h.set i (klC (Kl.mk z.m z.w z.o (wor z.t (wshl 1 n)) z.r)))[i]? = some (klC (Kl.mk z.m z.w z.o (wor z.t (wshl 1 n)) z.r)) := List.getElem?_set_self (lt_of_at e)
  unfold f_X1_note
  dsimp only
  rw [dgI_ad (k := 3) e rfl (by omega), ob_s, kp3 e, ob_s, weq_s (by omega) (by decide)]
  cases hb : Nat.beq y 0 with
  | false => rw [decide_eq_false (fun e => by rw [e] at hb; cases hb), Bool.not_false, cond_true, cond_false]; exact dchk_same
  | true =>
    rw [decide_eq_true (Nat.eq_of_beq_eq_true hb), Bool.not_true, cond_false, cond_true]
    dsimp only
    rw [dgI_ad (k := 4) (x := z.r) e2 rfl (show z.r < 4294967296 by omega), ob_s, kp4 e2, ob_s, List.set_set]
    exact dchk_same
/-- the world behind a trial -/
noncomputable def Wd.tried (W : Wd) (i : Nat) : Wd := Wd.mk W.n W.cs W.ws (W.ks.set i (Kl.mk (W.kl i).m (W.kl i).w (W.kl i).o (wor (W.kl i).t (wshl 1 W.n)) (bif Nat.beq (agn W.n (W.sg (W.kl i).m) (W.kl i).w (W.kl i).o) 4294967295 then (W.kl i).r else wor (W.kl i).r (wshl 1 W.n)))) W.tr (W.tl + 1) W.rf W.td W.rc W.rl
theorem WC.tryClaim (ht : tb.length = nS) (w : WC h W g) {i : Nat} (hi : i < W.ks.length) (htl : W.tl < 999999) : ∃ h', f_X9_tryClaim tb (ad 0) (ad (g.ki i)) (ad (g.ci (W.kl i).m)) (h, c) = some (.inl (bif Nat.beq (agn W.n (W.sg (W.kl i).m) (W.kl i).w (W.kl i).o) 4294967295 then 1 else 0), (h', c)) ∧ WC h' (W.tried i) g := by
  obtain ⟨o1, e, b1, b2, b3, b4, b5⟩ : g.own (g.ki i) = 30 + i ∧ h[g.ki i]? = some (klC (W.kl i)) ∧ (W.kl i).m < W.cs.length ∧ (W.kl i).w < 4 ∧ (W.kl i).o < 4 ∧ (W.kl i).t < 64 ∧ (W.kl i).r < 64 := w.kl i hi
  have hn := w.n5
  have hs2 := shl_lt hn.1 hn.2
  have hl := w.lens
  have h9 := (w.c120 (frm_lt (W.sg (W.kl i).m))).1
  have ha := agn_ok (σ := W.sg (W.kl i).m) hn.1 hn.2 (W.kl i).w (W.kl i).o
  have hx := w.fx
  have ne0 : g.ki i ≠ 0 := fun e0 => by rw [e0] at o1; omega
  generalize hy : (bif Nat.beq (agn W.n (W.sg (W.kl i).m) (W.kl i).w (W.kl i).o) 4294967295 then 1 else 0) = y
  have hy1 : y ≤ 1 := by rw [← hy]; cases Nat.beq (agn W.n (W.sg (W.kl i).m) (W.kl i).w (W.kl i).o) 4294967295 <;> decide
  have e0 : (h.set (g.ki i) (klC (Kl.mk (W.kl i).m (W.kl i).w (W.kl i).o (wor (W.kl i).t (wshl 1 W.n)) (bif Nat.beq y 0 then wor (W.kl i).r (wshl 1 W.n) else (W.kl i).r))))[0]? = some (houC g.p W.cs.length W.ws.length W.ks.length W.tr W.tl) := by
    rw [List.getElem?_set_ne ne0]; exact w.house
  have hyr : (bif Nat.beq y 0 then wor (W.kl i).r (wshl 1 W.n) else (W.kl i).r) = (bif Nat.beq (agn W.n (W.sg (W.kl i).m) (W.kl i).w (W.kl i).o) 4294967295 then (W.kl i).r else wor (W.kl i).r (wshl 1 W.n)) := by
    rw [← hy]; cases Nat.beq (agn W.n (W.sg (W.kl i).m) (W.kl i).w (W.kl i).o) 4294967295 <;> rfl
  refine ⟨(h.set (g.ki i) (klC (Kl.mk (W.kl i).m (W.kl i).w (W.kl i).o (wor (W.kl i).t (wshl 1 W.n)) (bif Nat.beq y 0 then wor (W.kl i).r (wshl 1 W.n) else (W.kl i).r)))).set 0 (houC g.p W.cs.length W.ws.length W.ks.length W.tr (W.tl + 1)), ?_, ?_⟩
  · have g10 : dgI nS c_X9 10 (h.set (g.ki i) (klC (Kl.mk (W.kl i).m (W.kl i).w (W.kl i).o (wor (W.kl i).t (wshl 1 W.n)) (bif Nat.beq y 0 then wor (W.kl i).r (wshl 1 W.n) else (W.kl i).r)))) (ad 0) = some W.tl := dgI_ad e0 rfl (by omega)
    unfold f_X9_tryClaim
    dsimp only
    rw [dgI_ad (k := 1) e rfl (show (W.kl i).w < 4294967296 by omega), ob_s, dgI_ad (k := 2) e rfl (show (W.kl i).o < 4294967296 by omega), ob_s, w.tag, ob_s, w.firstAgainst ht b1 b2 b3, ob_s, weq_s (by omega) (by decide)]
    cases hb : Nat.beq (agn W.n (W.sg (W.kl i).m) (W.kl i).w (W.kl i).o) 4294967295 with
    | true =>
      rw [hb, cond_true] at hy
      subst hy
      rw [decide_eq_true (Nat.eq_of_beq_eq_true hb), Bool.not_true, cond_false, w.g5, ob_s, w.Rl.1.size, ob_s, dtag_ad e, ob_s, note_ok e (by decide) b4 b5, obW_l]
      dsimp only
      rw [g10, ob_s, wadd_s (by omega), hp10 e0, ob_s]
      exact dchk_same
    | false =>
      rw [hb, cond_false] at hy
      subst hy
      rw [decide_eq_false (fun e => by rw [e, Nat.beq_refl] at hb; cases hb), Bool.not_false, cond_true, w.g5, ob_s, w.Rl.1.size, ob_s, dtag_ad e, ob_s, note_ok e (by decide) b4 b5, obW_l]
      dsimp only
      rw [g10, ob_s, wadd_s (by omega), hp10 e0, ob_s]
      exact dchk_same
  · rw [hyr]
    have f : Fr (fun o => o = 100 ∨ o = 30 + i) g.own g.own h ((h.set (g.ki i) (klC (Kl.mk (W.kl i).m (W.kl i).w (W.kl i).o (wor (W.kl i).t (wshl 1 W.n)) (bif Nat.beq (agn W.n (W.sg (W.kl i).m) (W.kl i).w (W.kl i).o) 4294967295 then (W.kl i).r else wor (W.kl i).r (wshl 1 W.n))))).set 0 (houC g.p W.cs.length W.ws.length W.ks.length W.tr (W.tl + 1))) := (Fr.one (Or.inr o1)).tr (Fr.one (Or.inl hx.1))
    unfold Wd.tried
    exact WC.mk (house := (by rw [List.length_set]; exact List.getElem?_set_self (by rw [List.length_set]; exact lt_of_at w.house))) (rarr := (f.at w.rarr w.fx.2.1 (show ¬ ((101) = 100 ∨ (101) = 30 + i) by omega)).1) (rlen := w.rlen) (rcur := w.rcur) (rl := (fun k a e => f.rl (show ¬ ((1) = 100 ∨ (1) = 30 + i) by omega) (w.rl k a e))) (surv := (f.sv (show ¬ ((102) = 100 ∨ (102) = 30 + i) by omega) w.fx.2.2.1 w.surv)) (carr := (f.at w.carr w.fx.2.2.2.1 (show ¬ ((105) = 100 ∨ (105) = 30 + i) by omega)).1) (clen := w.clen) (cat := w.cat) (ch := (fun x hx => f.ch (show ¬ ((10 + x) = 100 ∨ (10 + x) = 30 + i) by have hxx : x < W.cs.length := hx; have := w.lens; omega) (w.ch x hx))) (warr := (f.at w.warr w.fx.2.2.2.2.1 (show ¬ ((106) = 100 ∨ (106) = 30 + i) by omega)).1) (wlen := w.wlen) (wat := w.wat) (wk := (fun x hx => f.wk (show ¬ ((20 + x) = 100 ∨ (20 + x) = 30 + i) by have hxx : x < W.ws.length := hx; have := w.lens; omega) (w.wk x hx))) (karr := (f.at w.karr w.fx.2.2.2.2.2.1 (show ¬ ((107) = 100 ∨ (107) = 30 + i) by omega)).1) (klen := w.klen) (kat := (fun x hx2 => w.kat x (by rw [List.length_set] at hx2; exact hx2))) (kl := (fun x hx2 => by
      rw [List.length_set] at hx2
      by_cases e1 : x = i
      · subst e1
        show KlOk _ _ _ _ _ ((W.ks.set x _).getD x kl0)
        rw [gd_self hx2]
        refine ⟨o1, ?_, b1, b2, b3, wor_lt b4 hs2, ?_⟩
        · rw [List.getElem?_set_ne (fun e => ne0 e.symm), List.getElem?_set_self (lt_of_at e)]
        · cases Nat.beq (agn W.n (W.sg (W.kl x).m) (W.kl x).w (W.kl x).o) 4294967295 with
          | true => exact b5
          | false => exact wor_lt b5 hs2
      · show KlOk _ _ _ _ _ ((W.ks.set i _).getD x kl0)
        rw [gd_ne e1]
        exact f.kl (show ¬ (30 + x = 100 ∨ 30 + x = 30 + i) by omega) (w.kl x hx2))) (lens := ⟨hl.1, hl.2.1, by rw [List.length_set]; exact hl.2.2.1, hl.2.2.2.1, (show W.tl + 1 < 1000000 by omega), hl.2.2.2.2.2⟩) (fx := w.fx) (lrf := (f.at w.lrf w.fx.2.2.2.2.2.2.1 (show ¬ ((149) = 100 ∨ (149) = 30 + i) by omega)).1) (ltd := (f.at w.ltd w.fx.2.2.2.2.2.2.2 (show ¬ ((150) = 100 ∨ (150) = 30 + i) by omega)).1) (lln := w.lln)
theorem trial_ok (ht : tb.length = nS) (w : World hs W) {i : Nat} (hi : i < W.ks.length) (htl : W.tl < 999999) : Ans (f_X9_trial tb (ad 0) i hs) (bif Nat.beq (agn W.n (W.sg (W.kl i).m) (W.kl i).w (W.kl i).o) 4294967295 then 1 else 0) (W.tried i) := by
  obtain ⟨g, wc, hc⟩ := w
  obtain ⟨h, c⟩ := hs
  obtain ⟨h', e1, e2⟩ := wc.tryClaim (c := c) ht hi htl
  refine ⟨(h', c), ?_, g, e2, hc⟩
  have hm := (wc.kl i hi).2.2.1
  have hl := wc.lens
  unfold f_X9_trial
  rw [wc.tag, ob_s, wc.claimAt ht hi, obW_l, dgI_ad (k := 0) (wc.kI hi) rfl (show (W.kl i).m < 4294967296 by have : (W.kl i).m < W.cs.length := hm; omega), ob_s, wc.tag, ob_s, wc.chartAt ht hm, obW_l, wc.tag, ob_s, e1, obW_l]
  cases Nat.beq (agn W.n (W.sg (W.kl i).m) (W.kl i).w (W.kl i).o) 4294967295 with
  | true => exact dchk_same
  | false => exact dchk_same
theorem wp {i k : Nat} {z z' : Wk} {v : Nat} (e : h[i]? = some (wkC z)) (hk : k < 6) (he : (wkC z').2 = (wkC z).2.set k (.int (nI v))) : dput nS c_X8 k .int (h, c) (ad i) (.int (nI v)) = some (h.set i (wkC z'), c) := by
  rw [dput_ad (hs := (h, c)) e (show k < (wkC z).2.length from hk) rfl]
  show some (h.set i (c_X8, (wkC z).2.set k (.int (nI v))), c) = _
  rw [← he]
  rfl
/-- where a walker is behind a trip -/
def Wk.gone (z : Wk) (f k : Nat) : Wk := Wk.mk z.hf z.hk f k (z.t + 1) (bif Nat.beq f z.hf && Nat.beq k z.hk then z.b + 1 else z.b)
theorem go_ok {i f k : Nat} {z : Wk} (e : h[i]? = some (wkC z)) (h1 : z.hf < 3) (h2 : z.hk < 1000000) (hf : f < 3) (hk : k < 1000000) (h5 : z.t < 1000000) (h6 : z.b ≤ z.t) : ∃ h', f_X8_go (ad i) f k (h, c) = some (.inl (), (h', c)) ∧ but (fun x => x = i) h h' ∧ h'[i]? = some (wkC (z.gone f k)) := by
  have g1 : (h.set i (wkC (Wk.mk z.hf z.hk f z.k z.t z.b)))[i]? = some (wkC (Wk.mk z.hf z.hk f z.k z.t z.b)) := List.getElem?_set_self (lt_of_at e)
  have g2 : ((h.set i (wkC (Wk.mk z.hf z.hk f z.k z.t z.b))).set i (wkC (Wk.mk z.hf z.hk f k z.t z.b)))[i]? = some (wkC (Wk.mk z.hf z.hk f k z.t z.b)) := List.getElem?_set_self (lt_of_at g1)
  have g3 : (((h.set i (wkC (Wk.mk z.hf z.hk f z.k z.t z.b))).set i (wkC (Wk.mk z.hf z.hk f k z.t z.b))).set i (wkC (Wk.mk z.hf z.hk f k (z.t + 1) z.b)))[i]? = some (wkC (Wk.mk z.hf z.hk f k (z.t + 1) z.b)) := List.getElem?_set_self (lt_of_at g2)
  have b3 : but (fun x => x = i) h (((h.set i (wkC (Wk.mk z.hf z.hk f z.k z.t z.b))).set i (wkC (Wk.mk z.hf z.hk f k z.t z.b))).set i (wkC (Wk.mk z.hf z.hk f k (z.t + 1) z.b))) := (but.one.tr but.one).tr but.one
  unfold f_X8_go Wk.gone
  rw [wp (z' := Wk.mk z.hf z.hk f z.k z.t z.b) e (by decide) rfl, ob_s, wp (z' := Wk.mk z.hf z.hk f k z.t z.b) g1 (by decide) rfl, ob_s]
  dsimp only
  rw [dgI_ad (k := 4) (x := z.t) g2 rfl (show z.t < 4294967296 by omega), ob_s, wadd_s (by omega), wp (z' := Wk.mk z.hf z.hk f k (z.t + 1) z.b) g2 (by decide) rfl, ob_s]
  dsimp only
  rw [dgI_ad (k := 2) (x := f) g3 rfl (show f < 4294967296 by omega), ob_s, dgI_ad (k := 0) (x := z.hf) g3 rfl (show z.hf < 4294967296 by omega), ob_s, weq_s (by omega) (by omega)]
  cases hb : Nat.beq f z.hf with
  | false =>
    rw [decide_eq_false (fun e => by rw [e, Nat.beq_refl] at hb; cases hb), Bool.not_false, cond_true, Bool.false_and, cond_false]
    exact ⟨_, dchk_same, b3, g3⟩
  | true =>
    rw [decide_eq_true (Nat.eq_of_beq_eq_true hb), Bool.not_true, cond_false, Bool.true_and, dgI_ad (k := 3) (x := k) g3 rfl (show k < 4294967296 by omega), ob_s, dgI_ad (k := 1) (x := z.hk) g3 rfl (show z.hk < 4294967296 by omega), ob_s, weq_s (by omega) (by omega)]
    cases hb2 : Nat.beq k z.hk with
    | false =>
      rw [decide_eq_false (fun e => by rw [e, Nat.beq_refl] at hb2; cases hb2), Bool.not_false, cond_true, cond_false]
      exact ⟨_, dchk_same, b3, g3⟩
    | true =>
      rw [decide_eq_true (Nat.eq_of_beq_eq_true hb2), Bool.not_true, cond_false, cond_true, dgI_ad (k := 5) (x := z.b) g3 rfl (show z.b < 4294967296 by omega), ob_s, wadd_s (by omega), wp (z' := Wk.mk z.hf z.hk f k (z.t + 1) (z.b + 1)) g3 (by decide) rfl, ob_s]
      exact ⟨_, dchk_same, b3.tr but.one, List.getElem?_set_self (lt_of_at g3)⟩
theorem Wk.gone_b (z : Wk) (f k : Nat) (h : z.b ≤ z.t) : (z.gone f k).b ≤ z.t + 1 := by
  show (bif Nat.beq f z.hf && Nat.beq k z.hk then z.b + 1 else z.b) ≤ z.t + 1
  cases Nat.beq f z.hf && Nat.beq k z.hk with
  | true => exact Nat.succ_le_succ h
  | false => exact Nat.le_succ_of_le h
def Wd.sent (W : Wd) (i f k : Nat) : Wd := Wd.mk W.n W.cs (W.ws.set i ((W.wk i).gone f k)) W.ks (W.tr + 1) W.tl W.rf W.td W.rc W.rl
theorem send_ok (ht : tb.length = nS) (w : World hs W) {i j : Nat} (hi : i < W.ws.length) (hj : j < W.cs.length) (hf : frm (W.sg j) = (W.wk i).f) (htr : W.tr < 999999) : Ans (f_X9_send tb (ad 0) i j 1 hs) ((cds W.n (tto (W.sg j))).getD (thr W.n (W.sg j) (W.wk i).k) 0) (W.sent i (tto (W.sg j)) (thr W.n (W.sg j) (W.wk i).k)) := by
  obtain ⟨q1, q2, q3, q4, q5, q6, q7⟩ := w.wk hi
  obtain ⟨g, wc, hc⟩ := w
  obtain ⟨h, c⟩ := hs
  replace wc : WC h W g := wc
  obtain ⟨o1, e, _⟩ : g.own (g.wi i) = 20 + i ∧ h[g.wi i]? = some (wkC (W.wk i)) ∧ _ := wc.wk i hi
  obtain ⟨cl, sv, d, u, r, q, a⟩ := wc.chart hj
  have c1 := (wc.c120 q1).1
  have c2 := (wc.c120 q3).1
  have c3 := (wc.c120 (tto_lt (W.sg j))).1
  have hl := wc.lens
  have hx := wc.fx
  have hk := wc.th hj (k := (W.wk i).k) (by rw [hf]; exact q4)
  obtain ⟨h1, e1, b1, e2⟩ := go_ok (c := c) e q1 (show (W.wk i).hk < 1000000 by omega) (tto_lt (W.sg j)) (show thr W.n (W.sg j) (W.wk i).k < 1000000 by omega) (show (W.wk i).t < 1000000 by omega) q5
  have ne0 : g.wi i ≠ 0 := fun e0 => by rw [e0] at o1; omega
  have e0 : h1[0]? = some (houC g.p W.cs.length W.ws.length W.ks.length W.tr W.tl) := by rw [b1.2 0 (fun e => ne0 e.symm)]; exact wc.house
  have f : Fr (fun o => o = 100 ∨ o = 20 + i) g.own g.own h (h1.set 0 (houC g.p W.cs.length W.ws.length W.ks.length (W.tr + 1) W.tl)) := (Fr.of_but b1 (fun x hX => by rw [hX]; exact Or.inr o1)).tr (Fr.one (Or.inl hx.1))
  have e3 : (h1.set 0 (houC g.p W.cs.length W.ws.length W.ks.length (W.tr + 1) W.tl))[g.wi i]? = some (wkC ((W.wk i).gone (tto (W.sg j)) (thr W.n (W.sg j) (W.wk i).k))) := by rw [List.getElem?_set_ne (fun e => ne0 e.symm)]; exact e2
  have w2 : WC (h1.set 0 (houC g.p W.cs.length W.ws.length W.ks.length (W.tr + 1) W.tl)) (W.sent i (tto (W.sg j)) (thr W.n (W.sg j) (W.wk i).k)) g := by
    unfold Wd.sent
    exact WC.mk (house := (by rw [List.length_set]; exact List.getElem?_set_self (lt_of_at e0))) (rarr := (f.at wc.rarr wc.fx.2.1 (show ¬ ((101) = 100 ∨ (101) = 20 + i) by omega)).1) (rlen := wc.rlen) (rcur := wc.rcur) (rl := (fun k a e => f.rl (show ¬ ((1) = 100 ∨ (1) = 20 + i) by omega) (wc.rl k a e))) (surv := (f.sv (show ¬ ((102) = 100 ∨ (102) = 20 + i) by omega) wc.fx.2.2.1 wc.surv)) (carr := (f.at wc.carr wc.fx.2.2.2.1 (show ¬ ((105) = 100 ∨ (105) = 20 + i) by omega)).1) (clen := wc.clen) (cat := wc.cat) (ch := (fun x hx => f.ch (show ¬ ((10 + x) = 100 ∨ (10 + x) = 20 + i) by have hxx : x < W.cs.length := hx; have := wc.lens; omega) (wc.ch x hx))) (warr := (f.at wc.warr wc.fx.2.2.2.2.1 (show ¬ ((106) = 100 ∨ (106) = 20 + i) by omega)).1) (wlen := wc.wlen) (wat := (fun x hx2 => wc.wat x (by rw [List.length_set] at hx2; exact hx2))) (wk := (fun x hx2 => by
      rw [List.length_set] at hx2
      by_cases e4 : x = i
      · subst e4
        show WkOk _ _ _ _ _ ((W.ws.set x _).getD x wk0)
        rw [gd_self hx2]
        exact ⟨o1, e3, q1, q2, tto_lt _, hk, Wk.gone_b _ _ _ q5⟩
      · show WkOk _ _ _ _ _ ((W.ws.set i _).getD x wk0)
        rw [gd_ne e4]
        exact f.wk (show ¬ (20 + x = 100 ∨ 20 + x = 20 + i) by omega) (wc.wk x hx2))) (karr := (f.at wc.karr wc.fx.2.2.2.2.2.1 (show ¬ ((107) = 100 ∨ (107) = 20 + i) by omega)).1) (klen := wc.klen) (kat := wc.kat) (kl := (fun x hx => f.kl (show ¬ ((30 + x) = 100 ∨ (30 + x) = 20 + i) by have hxx : x < W.ks.length := hx; have := wc.lens; omega) (wc.kl x hx))) (lens := ⟨hl.1, by rw [List.length_set]; exact hl.2.1, hl.2.2.1, (show W.tr + 1 < 1000000 by omega), hl.2.2.2.2.1, fun z hz => by
      rcases List.mem_or_eq_of_mem_set hz with hz2 | hz2
      · exact Nat.le_succ_of_le (hl.2.2.2.2.2 z hz2)
      · rw [hz2]; exact Nat.succ_le_succ q6⟩) (fx := wc.fx) (lrf := (f.at wc.lrf wc.fx.2.2.2.2.2.2.1 (show ¬ ((149) = 100 ∨ (149) = 20 + i) by omega)).1) (ltd := (f.at wc.ltd wc.fx.2.2.2.2.2.2.2 (show ¬ ((150) = 100 ∨ (150) = 20 + i) by omega)).1) (lln := wc.lln)
  refine ⟨(h1.set 0 (houC g.p W.cs.length W.ws.length W.ks.length (W.tr + 1) W.tl), c), ?_, g, w2, hc⟩
  unfold f_X9_send
  rw [wc.tag, ob_s, wc.walkerAt ht hi, obW_l, wc.tag, ob_s, wc.chartAt ht hj, obW_l, show wlt 1 1 = false from rfl, cond_false, show wle 1 60 = true from rfl, cond_true, a.from_, ob_s, dgI_ad (k := 2) e rfl (show (W.wk i).f < 4294967296 by omega), ob_s, weq_s (by have := frm_lt (W.sg j); omega) (by omega), decide_eq_true hf, cond_true, a.tag, ob_s, a.isMove, ob_s]
  have lp : lp_X9_send tb dF (ad 0) 1 (ad (g.wi i)) (ad (g.ci j)) 0 (h, c) = some (.inl ((cds W.n (tto (W.sg j))).getD (thr W.n (W.sg j) (W.wk i).k) 0), (h1.set 0 (houC g.p W.cs.length W.ws.length W.ks.length (W.tr + 1) W.tl), c)) := by
    rw [show dF = 99998 + 1 + 1 from rfl, lp_X9_send_s0]
    unfold lb0_X9_send
    dsimp only
    rw [show wle 1 0 = false from rfl, cond_false, a.to_, ob_s, wc.g5, ob_s, dgI_ad (k := 3) e rfl (show (W.wk i).k < 4294967296 by omega), ob_s, wc.Rl.1.tag, ob_s, a.thru ht wc.Rl.1 (by omega), ob_s, dtag_ad e, ob_s, e1, obW_l]
    dsimp only
    rw [dgI_ad (k := 9) e0 rfl (show W.tr < 4294967296 by omega), ob_s, wadd_s (by omega), hp9 e0, ob_s, dl_eq, wadd_s (by omega), lp_X9_send_s0]
    unfold lb0_X9_send
    dsimp only
    rw [show wle 1 (0 + 1) = true from rfl, cond_true, w2.g5, ob_s, dgI_ad (k := 2) (x := tto (W.sg j)) e3 rfl (show tto (W.sg j) < 4294967296 by have := tto_lt (W.sg j); omega), ob_s, dgI_ad (k := 3) (x := thr W.n (W.sg j) (W.wk i).k) e3 rfl (show thr W.n (W.sg j) (W.wk i).k < 4294967296 by omega), ob_s, w2.Rl.1.tag, ob_s, show f_X4_codeOf tb _ (ad g.p) (tto (W.sg j)) (thr W.n (W.sg j) (W.wk i).k) = _ from w2.Rl.1.codeOf ht (tto_lt _) (by omega), ob_s]
    rfl
  cases Nat.beq (frm (W.sg j)) (tto (W.sg j)) with
  | true => rw [cond_true, show weq 1 0 = false from rfl, Bool.not_false, cond_true, lp]; exact dchk_same
  | false => rw [cond_false, show weq 0 0 = true from rfl, Bool.not_true, cond_false, show wle 1 1 = true from rfl, cond_true, lp]; exact dchk_same
end HP
