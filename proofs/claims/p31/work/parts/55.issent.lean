/-! ===== the law's check of a walker ===== -/
section IZ
variable {tb : List (List Int32)} {W : Wd} {hs : kHS}
theorem sent_wk (W : Wd) {i : Nat} (hi : i < W.ws.length) (f k : Nat) : (W.sent i f k).wk i = (W.wk i).gone f k := gd_self hi
theorem isSent_ok (ht : tb.length = nS) {i j : Nat} (hi : i < W.ws.length) (hj : j < W.cs.length) (htr : W.tr < 999999) (hs : kHS) (w : World hs W) : ∃ W', (W' = W ∨ W' = W.sent i (tto (W.sg j)) (thr W.n (W.sg j) (W.wk i).k)) ∧ Ans (f_L_isSent tb (ad 0) i j hs) 1 W' := by
  obtain ⟨q1, q2, q3, q4, q5, q6, q7⟩ := w.wk hi
  have hn5 := w.n5
  have hw := w.word hj
  have hc := (cnt_720 hn5.1 hn5.2 (frm_lt (W.sg j)))
  have hc2 := (cnt_720 hn5.1 hn5.2 (tto_lt (W.sg j)))
  have hf3 := frm_lt (W.sg j)
  have ht3 := tto_lt (W.sg j)
  obtain ⟨s1, e1, w1⟩ := ofMap_0 ht w hj
  obtain ⟨s2, e2, w2⟩ := ofWalker_0 ht w1 hi
  have e1' : f_X9_ofMap tb (ad 0) j 0 hs = some (.inl (frm (W.sg j)), s1) := e1
  unfold f_L_isSent
  rw [w.tag, ob_s, e1', obW_l, w1.tag, ob_s, e2, obW_l, weq_s (by omega) (by omega)]
  by_cases he : frm (W.sg j) = (W.wk i).f
  · rw [decide_eq_true he, cond_true]
    have hk : (W.wk i).k < cnt W.n (frm (W.sg j)) := by rw [he]; exact q4
    have hto := hw.into hn5.1 hn5.2 hk
    obtain ⟨s3, e3, w3⟩ := ofWalker_0 ht w2 hi
    obtain ⟨s4, e4, w4⟩ := ofWalker_1 ht w3 hi
    obtain ⟨s5, e5, w5⟩ := rank_ok ht w4 q3 q4
    obtain ⟨s6, e6, w6⟩ := ofMap_1 ht w5 hj
    obtain ⟨s7, e7, w7⟩ := ofWalker_3 ht w6 hi
    obtain ⟨s8, e8, w8⟩ := many_5 (tb := tb) w7
    obtain ⟨s9, e9, w9⟩ := send_ok ht w8 hi hj he htr
    have hi2 : i < (W.sent i (tto (W.sg j)) (thr W.n (W.sg j) (W.wk i).k)).ws.length := by
      show i < (W.ws.set i _).length
      rw [List.length_set]; exact hi
    have hwk := sent_wk W hi (tto (W.sg j)) (thr W.n (W.sg j) (W.wk i).k)
    obtain ⟨t1, u1, x1⟩ := rank_ok ht w9 (f := tto (W.sg j)) (k := thr W.n (W.sg j) (W.wk i).k) ht3 hto
    obtain ⟨t2, u2, x2⟩ := image_ok ht x1 (j := j) (k := (W.wk i).k) hj hk
    obtain ⟨t3, u3, x3⟩ := ofWalker_0 ht x2 hi2
    obtain ⟨t4, u4, x4⟩ := ofWalker_1 ht x3 hi2
    obtain ⟨t5, u5, x5⟩ := ofWalker_3 ht x4 hi2
    obtain ⟨t6, u6, x6⟩ := many_5 (tb := tb) x5
    obtain ⟨t7, u7, x7⟩ := ofWalker_4 ht x6 hi2
    obtain ⟨t8, u8, x8⟩ := ofWalker_3 ht x7 hi2
    rw [hwk] at u3 u4 u5 u7 u8
    have u3' : f_X9_ofWalker tb (ad 0) i 0 t2 = some (.inl (tto (W.sg j)), t3) := u3
    have u4' : f_X9_ofWalker tb (ad 0) i 1 t3 = some (.inl ((cds W.n (tto (W.sg j))).getD (thr W.n (W.sg j) (W.wk i).k) 0), t4) := u4
    have u5' : f_X9_ofWalker tb (ad 0) i 3 t4 = some (.inl ((W.wk i).t + 1), t5) := u5
    have u6' : f_X9_many tb (ad 0) 5 t5 = some (.inl (W.tr + 1), t6) := u6
    have u8' : f_X9_ofWalker tb (ad 0) i 3 t7 = some (.inl ((W.wk i).t + 1), t8) := u8
    have hb := Wk.gone_b (W.wk i) (tto (W.sg j)) (thr W.n (W.sg j) (W.wk i).k) q5
    generalize ((W.wk i).gone (tto (W.sg j)) (thr W.n (W.sg j) (W.wk i).k)).b = B at u7 hb
    have e6' : f_X9_ofMap tb (ad 0) j 1 s5 = some (.inl (tto (W.sg j)), s6) := e6
    have hcode := (cds_small hn5.1 hn5.2 (tto (W.sg j))).get (thr W.n (W.sg j) (W.wk i).k)
    have u1' : f_X9_rank tb (ad 0) (tto (W.sg j)) ((cds W.n (tto (W.sg j))).getD (thr W.n (W.sg j) (W.wk i).k) 0) s9 = some (.inl (thr W.n (W.sg j) (W.wk i).k), t1) := u1
    have u2' : f_X9_image tb (ad 0) j (W.wk i).k t1 = some (.inl (thr W.n (W.sg j) (W.wk i).k), t2) := u2
    generalize (cds W.n (tto (W.sg j))).getD (thr W.n (W.sg j) (W.wk i).k) 0 = code at hcode e9 u1' u4'
    refine ⟨_, Or.inr rfl, t8, ?_, x8⟩
    rw [w2.tag, ob_s, e3, obW_l, w3.tag, ob_s, e4, obW_l, w4.tag, ob_s, e5, obW_l, w5.tag, ob_s, e6', obW_l, w6.tag, ob_s, e7, obW_l, w7.tag, ob_s, e8, obW_l, w8.tag, ob_s, e9, obW_l, w9.tag, ob_s, u1', obW_l, x1.tag, ob_s, u2', obW_l, weq_s (by omega) (by omega), decide_eq_true rfl, Bool.not_true, cond_false]
    rw [x2.tag, ob_s, u3', obW_l, weq_s (by omega) (by omega), decide_eq_true rfl, Bool.not_true, cond_false, x3.tag, ob_s, u4', obW_l, weq_s (by omega) (by omega), decide_eq_true rfl, Bool.not_true, cond_false, x4.tag, ob_s, u5', obW_l, wadd_s (by omega), weq_s (by omega) (by omega), decide_eq_true rfl, Bool.not_true, cond_false, x5.tag, ob_s, u6', obW_l, wadd_s (by omega), weq_s (by omega) (by omega), decide_eq_true rfl, Bool.not_true, cond_false, x6.tag, ob_s, u7, obW_l, x7.tag, ob_s, u8', obW_l, wlt_s (by omega) (by omega), decide_eq_false (by omega), cond_false]
    exact dchk_eq (by
      obtain ⟨_, _, a, b⟩ := w
      obtain ⟨_, _, a', b'⟩ := x8
      show hs.2.1 ≤ t8.2.1
      rw [a, a']
      exact Nat.le_refl _) (by
      obtain ⟨_, _, a, b⟩ := w
      obtain ⟨_, _, a', b'⟩ := x8
      show hs.2.2 ≤ t8.2.2
      rw [b, b']
      exact Nat.le_refl _)
  · rw [decide_eq_false he, cond_false]
    refine ⟨W, Or.inl rfl, s2, ?_, w2⟩
    exact dchk_eq (w.mono w2).1 (w.mono w2).2
end IZ
