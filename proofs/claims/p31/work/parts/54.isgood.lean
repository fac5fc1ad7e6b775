/-! ===== the law's check of a map, whole ===== -/
section IW
variable {tb : List (List Int32)} {W : Wd} {hs : kHS}
theorem World.mono {s s' : kHS} (w : World s W) (x : World s' W) : s.2.1 ≤ s'.2.1 ∧ s.2.2 ≤ s'.2.2 := by
  obtain ⟨_, _, a, b⟩ := w
  obtain ⟨_, _, a', b'⟩ := x
  omega
theorem im_in (ht : tb.length = nS) {j k a P m : Nat} (hj : j < W.cs.length) (hk : k < cnt W.n (frm (W.sg j))) (ha : a < 2) (hP : P ≤ 1) (hPf : P = 1 → Pfc W.n (W.sg j)) (H : ∀ hs, World hs W → ∃ hs', lp_L_isMap tb m 0 (ad 0) j (frm (W.sg j)) (tto (W.sg j)) (cnt W.n (frm (W.sg j))) k (thr W.n (W.sg j) k) P (a + 1) 0 0 0 0 hs = some (.inl 1, hs') ∧ World hs' W) : ∀ (l o : Nat) (hs : kHS), o + l = 4 → World hs W → ∃ hs', lp_L_isMap tb (m + l + 1) 1 (ad 0) j (frm (W.sg j)) (tto (W.sg j)) (cnt W.n (frm (W.sg j))) k (thr W.n (W.sg j) k) P a 0 o 0 0 hs = some (.inl 1, hs') ∧ World hs' W := by
  intro l
  induction l with
  | zero =>
    intro o hs ho w
    obtain ⟨s1, e1, w1⟩ := H hs w
    refine ⟨s1, ?_, w1⟩
    rw [show m + 0 + 1 = m + 1 from rfl, lp_L_isMap_s1]
    unfold lb1_L_isMap
    rw [wle_s (by decide) (by omega), decide_eq_true (by omega), cond_true, dl_eq, wadd_s (by omega)]
    exact e1
  | succ l ih =>
    intro o hs ho w
    have hn5 := w.n5
    have hw := w.word hj
    have hto := hw.into hn5.1 hn5.2 hk
    have hc := (cnt_720 hn5.1 hn5.2 (frm_lt (W.sg j)))
    have v1 := val_lt hn5.1 hn5.2 (frm_lt (W.sg j)) (show a < 4 by omega) k
    have v2 := val_lt hn5.1 hn5.2 (tto_lt (W.sg j)) (show o < 4 by omega) (thr W.n (W.sg j) k)
    obtain ⟨s1, e1, w1⟩ := against_ok ht w hj (show a < 4 by omega) (show o < 4 by omega)
    rw [show m + (l + 1) + 1 = (m + l + 1) + 1 from rfl, lp_L_isMap_s1]
    unfold lb1_L_isMap
    rw [wle_s (by decide) (by omega), decide_eq_false (by omega), cond_false, w.tag, ob_s, e1, obW_l]
    rcases agn_ok (σ := W.sg j) hn5.1 hn5.2 a o with ⟨h1, h2⟩ | ⟨h1, h2⟩
    · rw [h1, show wle 0 4294967295 = false from rfl, cond_false]
      by_cases hp : P = 0
      · subst hp
        obtain ⟨s2, e2, w2⟩ := statistic_ok ht w1 (frm_lt (W.sg j)) (show a < 4 by omega) hk
        obtain ⟨s3, e3, w3⟩ := statistic_ok ht w2 (tto_lt (W.sg j)) (show o < 4 by omega) hto
        obtain ⟨s4, e4, w4⟩ := ih (o + 1) s3 (by omega) w3
        refine ⟨s4, ?_, w4⟩
        rw [show weq 0 0 = true from rfl, cond_true, w1.tag, ob_s, e2, obW_l, w2.tag, ob_s, e3, obW_l, weq_s (by omega) (by omega), decide_eq_true (h2 k hk), cond_true, show wlt 4294967295 0 = true from rfl, cond_true, dl_eq, wadd_s (by omega)]
        exact e4
      · have hp1 : P = 1 := by omega
        subst hp1
        have pf := hPf rfl
        obtain ⟨s0, e0, w0⟩ := alike_1 ht w1 (frm_lt (W.sg j)) (show a < 4 by omega) (tto_lt (W.sg j)) (show o < 4 by omega) (fun v hv => alike_ok hw hn5.1 hn5.2 pf.1 pf.2 (by omega) (by omega) h2 hv)
        obtain ⟨s2, e2, w2⟩ := statistic_ok ht w0 (frm_lt (W.sg j)) (show a < 4 by omega) hk
        obtain ⟨s3, e3, w3⟩ := statistic_ok ht w2 (tto_lt (W.sg j)) (show o < 4 by omega) hto
        obtain ⟨s4, e4, w4⟩ := ih (o + 1) s3 (by omega) w3
        refine ⟨s4, ?_, w4⟩
        rw [show weq 1 0 = false from rfl, cond_false, w1.tag, ob_s, e0, obW_l, show weq 1 0 = false from rfl, cond_false, w0.tag, ob_s, e2, obW_l, w2.tag, ob_s, e3, obW_l, weq_s (by omega) (by omega), decide_eq_true (h2 k hk), cond_true, show wlt 4294967295 0 = true from rfl, cond_true, dl_eq, wadd_s (by omega)]
        exact e4
    · have hto2 := hw.into hn5.1 hn5.2 h1
      have v3 := val_lt hn5.1 hn5.2 (frm_lt (W.sg j)) (show a < 4 by omega) (agn W.n (W.sg j) a o)
      have v4 := val_lt hn5.1 hn5.2 (tto_lt (W.sg j)) (show o < 4 by omega) (thr W.n (W.sg j) (agn W.n (W.sg j) a o))
      obtain ⟨s2, e2, w2⟩ := statistic_ok ht w1 (frm_lt (W.sg j)) (show a < 4 by omega) h1
      obtain ⟨s3, e3, w3⟩ := image_ok ht w2 hj h1
      obtain ⟨s4, e4, w4⟩ := statistic_ok ht w3 (tto_lt (W.sg j)) (show o < 4 by omega) hto2
      obtain ⟨s5, e5, w5⟩ := ih (o + 1) s4 (by omega) w4
      refine ⟨s5, ?_, w5⟩
      rw [wle_s (by decide) (by omega), decide_eq_true (Nat.zero_le _), cond_true, wlt_s (by omega) (by decide), decide_eq_false (Nat.not_lt_zero _), cond_false, w1.tag, ob_s, e2, obW_l, w2.tag, ob_s, e3, obW_l, w3.tag, ob_s, e4, obW_l, weq_s (by omega) (by omega), decide_eq_false h2, Bool.not_false, cond_true, dl_eq, wadd_s (by omega)]
      exact e5
theorem im_end (ht : tb.length = nS) {j k P m : Nat} (hj : j < W.cs.length) (hk : k < cnt W.n (frm (W.sg j))) (hP : P ≤ 1) (hPf : P = 1 ↔ Pfc W.n (W.sg j)) (hs : kHS) (w : World hs W) : ∃ hs', lp_L_isMap tb (m + 722) 0 (ad 0) j (frm (W.sg j)) (tto (W.sg j)) (cnt W.n (frm (W.sg j))) k (thr W.n (W.sg j) k) P 2 0 0 0 0 hs = some (.inl 1, hs') ∧ World hs' W := by
  have hn5 := w.n5
  have hw := w.word hj
  have hc := (cnt_720 hn5.1 hn5.2 (frm_lt (W.sg j)))
  obtain ⟨s1, e1, w1⟩ := period_ok ht w hj
  rw [show m + 722 = (m + 721) + 1 from rfl, lp_L_isMap_s0]
  unfold lb0_L_isMap
  rw [show wle 2 2 = true from rfl, cond_true, w.tag, ob_s, e1, obW_l, weq_s (by have := frm_lt (W.sg j); omega) (by have := tto_lt (W.sg j); omega)]
  by_cases hm : frm (W.sg j) = tto (W.sg j)
  · rw [decide_eq_true hm, Bool.not_true, cond_false]
    by_cases hp : P = 1
    · have pf := hPf.mp hp
      subst hp
      obtain ⟨t, ht9, rt⟩ := home hw hn5.1 hn5.2 hm pf hk
      have t1 := rt.1
      obtain ⟨s2, e2, w2⟩ := im_walk ht hj hm pf hk (by omega) rt (t - 1) (m + 721 - t) 0 s1 w1 (by omega)
      refine ⟨s2, ?_, w2⟩
      rw [show (!weq 1 0) = true from rfl, cond_true]
      rw [show m + 721 - t + (t - 1) + 1 = m + 721 by omega] at e2
      exact e2
    · have hp0 : P = 0 := by omega
      subst hp0
      obtain ⟨a1, a2, a3⟩ := im_no ht w hj (fun h => by have := hPf.mpr h.2; omega)
      obtain ⟨s2, e2, w2⟩ := rounds_ok ht w1 hj
      obtain ⟨s3, e3, w3⟩ := cancels_ok (a := 0) ht w2 hj (by decide)
      refine ⟨s3, ?_, w3⟩
      rw [a1] at e2
      rw [a3] at e3
      rw [show (!weq 0 0) = false from rfl, cond_false, a2, show (!weq (xcmp 18446744073709551615 18446744073709551615) 0) = false from rfl, cond_false, w1.tag, ob_s, e2, obW_l, show (!weq 4294967295 4294967295) = false from rfl, cond_false, w2.tag, ob_s, e3, obW_l, show (!weq 0 0) = false from rfl, cond_false]
      rfl
  · rw [decide_eq_false hm, Bool.not_false, cond_true]
    obtain ⟨a1, a2, a3⟩ := im_no ht w hj (fun h => hm h.1)
    obtain ⟨s2, e2, w2⟩ := rounds_ok ht w1 hj
    obtain ⟨s3, e3, w3⟩ := cancels_ok (a := 0) ht w2 hj (by decide)
    refine ⟨s3, ?_, w3⟩
    rw [a1] at e2
    rw [a3] at e3
    rw [a2, show (!weq (xcmp 18446744073709551615 18446744073709551615) 0) = false from rfl, cond_false, w1.tag, ob_s, e2, obW_l, show (!weq 4294967295 4294967295) = false from rfl, cond_false, w2.tag, ob_s, e3, obW_l, show (!weq 0 0) = false from rfl, cond_false]
    rfl
theorem im_loops (ht : tb.length = nS) {j k P : Nat} (hj : j < W.cs.length) (hk : k < cnt W.n (frm (W.sg j))) (hP : P ≤ 1) (hPf : P = 1 ↔ Pfc W.n (W.sg j)) (hs : kHS) (w : World hs W) : ∃ hs', lp_L_isMap tb dF 0 (ad 0) j (frm (W.sg j)) (tto (W.sg j)) (cnt W.n (frm (W.sg j))) k (thr W.n (W.sg j) k) P 0 0 0 0 0 hs = some (.inl 1, hs') ∧ World hs' W := by
  have step : ∀ (a m : Nat), a < 2 → (∀ hs, World hs W → ∃ hs', lp_L_isMap tb m 0 (ad 0) j (frm (W.sg j)) (tto (W.sg j)) (cnt W.n (frm (W.sg j))) k (thr W.n (W.sg j) k) P (a + 1) 0 0 0 0 hs = some (.inl 1, hs') ∧ World hs' W) → ∀ hs, World hs W → ∃ hs', lp_L_isMap tb (m + 6) 0 (ad 0) j (frm (W.sg j)) (tto (W.sg j)) (cnt W.n (frm (W.sg j))) k (thr W.n (W.sg j) k) P a 0 0 0 0 hs = some (.inl 1, hs') ∧ World hs' W := by
    intro a m ha H hs w
    obtain ⟨s1, e1, w1⟩ := im_in ht hj hk ha hP hPf.mp H 4 0 hs rfl w
    refine ⟨s1, ?_, w1⟩
    rw [show m + 6 = (m + 4 + 1) + 1 from rfl, lp_L_isMap_s0]
    unfold lb0_L_isMap
    rw [wle_s (by decide) (by omega), decide_eq_false (by omega), cond_false]
    exact e1
  have e := step 0 99994 (by decide) (step 1 99988 (by decide) (fun hs w => im_end (m := 99266) ht hj hk hP hPf hs w)) hs w
  exact e
theorem isMap_ok (ht : tb.length = nS) {j y : Nat} (hj : j < W.cs.length) (hs : kHS) (w : World hs W) : Ans (f_L_isMap tb (ad 0) j y hs) 1 W := by
  have hn5 := w.n5
  have hw := w.word hj
  have hv := svv_ok hw hn5.1 hn5.2
  obtain ⟨hle1, hle2⟩ := SV_le hw hn5.1 hn5.2 hv
  have hpf := SV_pf hw hn5.1 hn5.2 hv
  have hc := (cnt_720 hn5.1 hn5.2 (frm_lt (W.sg j)))
  have hc2 := (cnt_720 hn5.1 hn5.2 (tto_lt (W.sg j)))
  obtain ⟨s1, e1, w1⟩ := ofMap_0 ht w hj
  obtain ⟨s2, e2, w2⟩ := ofMap_1 ht w1 hj
  obtain ⟨s3, e3, w3⟩ := objects_ok ht w2 (frm_lt (W.sg j))
  obtain ⟨b1, b2⟩ := below_ok (a := y) hc.2 (show cnt W.n (frm (W.sg j)) < 2147483648 by omega)
  generalize wand y 2147483647 % cnt W.n (frm (W.sg j)) = k at b1 b2
  have hto := hw.into hn5.1 hn5.2 b2
  obtain ⟨s4, e4, w4⟩ := image_ok ht w3 hj b2
  obtain ⟨s5, e5, w5⟩ := ofMap_3 ht w4 hj
  obtain ⟨s6, e6, w6⟩ := ofMap_4 ht w5 hj
  obtain ⟨s7, e7, w7⟩ := source_ok ht w6 hj hto
  obtain ⟨f1, f2⟩ := fsr_ok (y := thr W.n (W.sg j) k) (n := W.n) (σ := W.sg j) (x := k) rfl (cnt W.n (frm (W.sg j))) 0 (Nat.zero_le _) (by omega)
  obtain ⟨s8, e8, w8⟩ := image_ok ht w7 hj (k := fsr W.n (W.sg j) (thr W.n (W.sg j) k) (cnt W.n (frm (W.sg j))) 0) (by omega)
  rw [f2] at e8
  have e1' : f_X9_ofMap tb (ad 0) j 0 hs = some (.inl (frm (W.sg j)), s1) := e1
  have e2' : f_X9_ofMap tb (ad 0) j 1 s1 = some (.inl (tto (W.sg j)), s2) := e2
  unfold f_L_isMap
  rw [w.tag, ob_s, e1', obW_l, w1.tag, ob_s, e2', obW_l, w2.tag, ob_s, e3, obW_l, b1, ob_s, w3.tag, ob_s, e4, obW_l, w4.tag, ob_s, e5, obW_l, w5.tag, ob_s, e6, obW_l]
  generalize hF : fsr W.n (W.sg j) (thr W.n (W.sg j) k) (cnt W.n (frm (W.sg j))) 0 = F at f1 f2 e7 e8
  by_cases hp : Pfc W.n (W.sg j)
  · obtain ⟨p1, p2⟩ := hpf.mpr hp
    have o3 : omv W j 3 = 1 := by
      show (bif Nat.beq (svv W.n (W.sg j)).1 (cnt W.n (frm (W.sg j))) then 1 else 0) = 1
      rw [p1, Nat.beq_refl]; rfl
    have o4 : omv W j 4 = 1 := by
      show (bif Nat.beq (svv W.n (W.sg j)).1 (cnt W.n (tto (W.sg j))) then 1 else 0) = 1
      rw [p2, Nat.beq_refl]; rfl
    have hFk : F = k := hp.1 F k (by omega) b2 f2
    obtain ⟨s9, e9, w9⟩ := objects_ok ht w8 (tto_lt (W.sg j))
    obtain ⟨t1, u1, x1⟩ := ofMap_5 ht w9 hj
    obtain ⟨t2, u2, x2⟩ := objects_ok ht x1 (tto_lt (W.sg j))
    obtain ⟨t3, u3, x3⟩ := im_loops (P := 1) ht hj b2 (Nat.le_refl _) ⟨fun _ => hp, fun _ => rfl⟩ t2 x2
    have u1' : f_X9_ofMap tb (ad 0) j 5 s9 = some (.inl (svv W.n (W.sg j)).1, t1) := u1
    rw [o3, o4, show (!weq (wadd 1 1) 2) = false from rfl, cond_false, w6.tag, ob_s, e7, obW_l, wlt_s (by omega) (by omega), decide_eq_false (by omega), cond_false, wlt_s (by omega) (by decide), decide_eq_false (by omega), cond_false, w7.tag, ob_s, e8, obW_l, weq_s (by omega) (by omega), decide_eq_true rfl, Bool.not_true, cond_false, show weq 1 0 = false from rfl, cond_false, weq_s (by omega) (by omega), decide_eq_true hFk, Bool.not_true, cond_false, w8.tag, ob_s, e9, obW_l, weq_s (by omega) (by omega), decide_eq_true hp.2, Bool.not_true, cond_false, w9.tag, ob_s, u1', obW_l, x1.tag, ob_s, u2, obW_l]
    have hmin : wle (svv W.n (W.sg j)).1 (wmin (cnt W.n (frm (W.sg j))) (cnt W.n (tto (W.sg j)))) = true := by
      unfold wmin
      rw [wlt_s (by omega) (by omega)]
      by_cases hlt : cnt W.n (tto (W.sg j)) < cnt W.n (frm (W.sg j))
      · rw [decide_eq_true hlt, cond_true, wle_s (by omega) (by omega)]; exact decide_eq_true hle2
      · rw [decide_eq_false hlt, cond_false, wle_s (by omega) (by omega)]; exact decide_eq_true hle1
    rw [hmin, cond_true, u3]
    exact ⟨t3, dchk_eq (w.mono x3).1 (w.mono x3).2, x3⟩
  · have hno : ¬ ((svv W.n (W.sg j)).1 = cnt W.n (frm (W.sg j)) ∧ (svv W.n (W.sg j)).1 = cnt W.n (tto (W.sg j))) := fun h => hp (hpf.mp h)
    have hne : (!weq (wadd (omv W j 3) (omv W j 4)) 2) = true := by
      show (!weq (wadd (bif Nat.beq (svv W.n (W.sg j)).1 (cnt W.n (frm (W.sg j))) then 1 else 0) (bif Nat.beq (svv W.n (W.sg j)).1 (cnt W.n (tto (W.sg j))) then 1 else 0)) 2) = true
      cases hx : Nat.beq (svv W.n (W.sg j)).1 (cnt W.n (frm (W.sg j))) with
      | false =>
        cases Nat.beq (svv W.n (W.sg j)).1 (cnt W.n (tto (W.sg j))) with
        | false => rfl
        | true => rfl
      | true =>
        cases hy : Nat.beq (svv W.n (W.sg j)).1 (cnt W.n (tto (W.sg j))) with
        | false => rfl
        | true => exact absurd ⟨Nat.eq_of_beq_eq_true hx, Nat.eq_of_beq_eq_true hy⟩ hno
    obtain ⟨t1, u1, x1⟩ := ofMap_5 ht w8 hj
    obtain ⟨t2, u2, x2⟩ := objects_ok ht x1 (tto_lt (W.sg j))
    obtain ⟨t3, u3, x3⟩ := im_loops (P := 0) ht hj b2 (Nat.zero_le _) ⟨fun h => absurd h (by decide), fun h => absurd h hp⟩ t2 x2
    have u1' : f_X9_ofMap tb (ad 0) j 5 s8 = some (.inl (svv W.n (W.sg j)).1, t1) := u1
    rw [hne, cond_true, w6.tag, ob_s, e7, obW_l, wlt_s (by omega) (by omega), decide_eq_false (by omega), cond_false, wlt_s (by omega) (by decide), decide_eq_false (by omega), cond_false, w7.tag, ob_s, e8, obW_l, weq_s (by omega) (by omega), decide_eq_true rfl, Bool.not_true, cond_false, show weq 0 0 = true from rfl, cond_true, w8.tag, ob_s, u1', obW_l, x1.tag, ob_s, u2, obW_l]
    have hmin : wle (svv W.n (W.sg j)).1 (wmin (cnt W.n (frm (W.sg j))) (cnt W.n (tto (W.sg j)))) = true := by
      unfold wmin
      rw [wlt_s (by omega) (by omega)]
      by_cases hlt : cnt W.n (tto (W.sg j)) < cnt W.n (frm (W.sg j))
      · rw [decide_eq_true hlt, cond_true, wle_s (by omega) (by omega)]; exact decide_eq_true hle2
      · rw [decide_eq_false hlt, cond_false, wle_s (by omega) (by omega)]; exact decide_eq_true hle1
    rw [hmin, cond_true, u3]
    exact ⟨t3, dchk_eq (w.mono x3).1 (w.mono x3).2, x3⟩
end IW
