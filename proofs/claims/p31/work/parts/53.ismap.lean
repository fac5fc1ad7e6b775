/-! ===== the law's check of a map ===== -/
section IM
variable {tb : List (List Int32)} {W : Wd} {hs : kHS}
theorem below_ok {a b : Nat} (hb : 1 ≤ b) (hb2 : b < 2147483648) : f_L_below a b = some (wand a 2147483647 % b) ∧ wand a 2147483647 % b < b := by
  have h1 : wand a 2147483647 ≤ 2147483647 := Nat.and_le_right
  refine ⟨?_, Nat.mod_lt _ hb⟩
  unfold f_L_below
  rw [weq_s (by omega) (by decide), decide_eq_false (by omega), cond_false]
  unfold wrem
  rw [wpos_s (by omega), wpos_s hb2, Bool.and_self, cond_true, show Nat.mod (wand a 2147483647) 4294967296 = wand a 2147483647 from Nat.mod_eq_of_lt (by omega), show Nat.mod b 4294967296 = b from Nat.mod_eq_of_lt (by omega)]
  rfl
theorem neq_none : (!weq 4294967295 4294967295) = false := rfl
/-- the tail behind the loops, where a map is no perfect move -/
theorem im_no (ht : tb.length = nS) (w : World hs W) {j : Nat} (hj : j < W.cs.length) (hn : ¬ (frm (W.sg j) = tto (W.sg j) ∧ Pfc W.n (W.sg j))) : (svv W.n (W.sg j)).2.2.1 = 4294967295 ∧ (svv W.n (W.sg j)).2.2.2 = 18446744073709551615 ∧ can W.n (W.sg j) 0 = 0 := by
  have hn5 := w.n5
  have hw := w.word hj
  have hv := svv_ok hw hn5.1 hn5.2
  obtain ⟨a, b⟩ := SV_no hw hn5.1 hn5.2 hv hn
  refine ⟨a, b, ?_⟩
  rcases can_ok W.n (W.sg j) 0 with h | ⟨_, h1, h2⟩
  · exact h
  · exact absurd ⟨h1, pf_of_back hw hn5.1 hn5.2 h1 h2⟩ hn
/-- the walk home -/
theorem im_walk (ht : tb.length = nS) {j k t : Nat} (hj : j < W.cs.length) (hm : frm (W.sg j) = tto (W.sg j)) (hp : Pfc W.n (W.sg j)) (hk : k < cnt W.n (frm (W.sg j))) (ht9 : t ≤ 720) (r : Ret (gr W.n (W.sg j)) t k) : ∀ (l m i : Nat) (hs : kHS), World hs W → i + l + 1 = t → ∃ hs', lp_L_isMap tb (m + l + 1) 2 (ad 0) j 0 0 (cnt W.n (frm (W.sg j))) k 0 0 0 (svv W.n (W.sg j)).2.2.2 0 i (itr (gr W.n (W.sg j)) i k) hs = some (.inl 1, hs') ∧ World hs' W := by
  intro l
  induction l with
  | zero =>
    intro m i hs w hi
    have hn5 := w.n5
    have hw := w.word hj
    have hv := svv_ok hw hn5.1 hn5.2
    obtain ⟨g1, g2, g3, g4, g5, g6, g7⟩ := SV_mv hw hn5.1 hn5.2 hv hm hp
    have g8 := SV_one hw hn5.1 hn5.2 hv hm hp
    have hc := (cnt_720 hn5.1 hn5.2 (frm_lt (W.sg j)))
    have hlt : itr (gr W.n (W.sg j)) i k < cnt W.n (frm (W.sg j)) := itr_lt (fun x hx => by
      obtain ⟨a, b⟩ := itr_gr hw hn5.1 hn5.2 hm hx
      rw [a]; exact b) hk i
    have hd : t ∣ (svv W.n (W.sg j)).2.2.2 := ret_dvd r (g1 k hk)
    obtain ⟨s1, e1, w1⟩ := image_ok ht w hj hlt
    have eb : thr W.n (W.sg j) (itr (gr W.n (W.sg j)) i k) = k := by
      rw [← gr_at hlt, ← itr_s, show i + 1 = t by omega]
      exact r.2.1
    have hu : (svv W.n (W.sg j)).2.1 ≤ 720 := Nat.le_trans g5 g6
    obtain ⟨s2, e2, w2⟩ := ofMap_6 ht w1 hj
    obtain ⟨s3, e3, w3⟩ := rounds_ok ht w2 hj
    obtain ⟨s4, e4, w4⟩ := ofMap_6 ht w3 hj
    obtain ⟨s5, e5, w5⟩ := cancels_ok (a := 1) ht w4 hj (by decide)
    refine ⟨s5, ?_, w5⟩
    rw [show m + 0 + 1 = m + 1 from rfl, lp_L_isMap_s2]
    unfold lb2_L_isMap
    have e2' : f_X9_ofMap tb (ad 0) j 6 s1 = some (.inl (svv W.n (W.sg j)).2.1, s2) := e2
    have e4' : f_X9_ofMap tb (ad 0) j 6 s3 = some (.inl (svv W.n (W.sg j)).2.1, s4) := e4
    generalize (svv W.n (W.sg j)).2.1 = U at g5 g7 g8 hu e2' e4'
    generalize hQ : (svv W.n (W.sg j)).2.2.2 = Q at g1 g2 g3 g4 g8 hd
    generalize (svv W.n (W.sg j)).2.2.1 = R at g5 g6 e3
    have t1 := r.1
    rw [w.tag, ob_s, e1, obW_l, dl_eq, wadd_s (by omega), eb, weq_s (by omega) (by omega), decide_eq_true rfl, Bool.not_true, cond_false, show i + 1 = t by omega, xi_s (by omega), xeq_s (by omega) (by decide), decide_eq_false (by omega), cond_false, xrem_s (by omega) (by omega), Nat.mod_eq_zero_of_dvd hd, xcmp_ne (by decide) (by decide), decide_eq_true rfl, Bool.not_true, cond_false, xcmp_ne (by omega) (by decide)]
    have tail : ∀ z, (bif wlt R U then (ob (dz 0) fun v => some (.inl v, s4)) else (ob (dtag nS c_X9 s4.1 (ad 0)) fun _ => obW (f_X9_cancels tb (ad 0) j 1 s4) fun x s => bif weq x 0 then (ob (dz 1) fun v => some (.inl v, s)) else (bif wlt 0 (xcmp Q 2) then (ob (dz 0) fun v => some (.inl v, s)) else (ob (dz 1) fun v => some (.inl v, s))))) = (some (.inl z, s5) : Option (dR Nat)) ↔ 1 = z := by
      intro z
      rw [wlt_s (by omega) (by omega), decide_eq_false (by omega), cond_false, w4.tag, ob_s, e5, obW_l]
      rcases can_ok W.n (W.sg j) 1 with hcan | ⟨hcan, _, hback⟩
      · rw [hcan, show weq 0 0 = true from rfl, cond_true]
        exact ⟨fun h => by cases h; rfl, fun h => by rw [← h]; rfl⟩
      · have hq2 := SV_two hw hn5.1 hn5.2 hv hm hp hback
        rw [hQ] at hq2
        have hx : wlt 0 (xcmp Q 2) = false := by
          rcases (show Q = 1 ∨ Q = 2 by omega) with rfl | rfl <;> rfl
        rw [hcan, show weq 1 0 = false from rfl, cond_false, hx, cond_false]
        exact ⟨fun h => by cases h; rfl, fun h => by rw [← h]; rfl⟩
    by_cases hq : Q = 1
    · have hU := g8.mp hq
      rw [decide_eq_true hq, Bool.not_true, cond_false, w1.tag, ob_s, e2', obW_l, weq_s (by omega) (by omega), decide_eq_true hU, Bool.not_true, cond_false, show (!weq 1 1) = false from rfl, cond_false, w2.tag, ob_s, e3, obW_l, w3.tag, ob_s, e4', obW_l]
      exact (tail 1).mpr rfl
    · have hU : ¬ U = cnt W.n (frm (W.sg j)) := fun h => hq (g8.mpr h)
      rw [decide_eq_false hq, Bool.not_false, cond_true, w1.tag, ob_s, e2', obW_l, weq_s (by omega) (by omega), decide_eq_false hU, Bool.not_false, cond_true, show (!weq 0 0) = false from rfl, cond_false, w2.tag, ob_s, e3, obW_l, w3.tag, ob_s, e4', obW_l]
      exact (tail 1).mpr rfl
  | succ l ih =>
    intro m i hs w hi
    have hn5 := w.n5
    have hw := w.word hj
    have hc := (cnt_720 hn5.1 hn5.2 (frm_lt (W.sg j)))
    have hlt : itr (gr W.n (W.sg j)) i k < cnt W.n (frm (W.sg j)) := itr_lt (fun x hx => by
      obtain ⟨a, b⟩ := itr_gr hw hn5.1 hn5.2 hm hx
      rw [a]; exact b) hk i
    obtain ⟨s1, e1, w1⟩ := image_ok ht w hj hlt
    have eb : thr W.n (W.sg j) (itr (gr W.n (W.sg j)) i k) = itr (gr W.n (W.sg j)) (i + 1) k := by
      rw [← gr_at hlt, ← itr_s]
    have hne := r.2.2 (i + 1) (by omega) (by omega)
    have hlt2 : itr (gr W.n (W.sg j)) (i + 1) k < cnt W.n (frm (W.sg j)) := itr_lt (fun x hx => by
      obtain ⟨a, b⟩ := itr_gr hw hn5.1 hn5.2 hm hx
      rw [a]; exact b) hk (i + 1)
    obtain ⟨s2, e2, w2⟩ := ih m (i + 1) s1 w1 (by omega)
    refine ⟨s2, ?_, w2⟩
    rw [show m + (l + 1) + 1 = (m + l + 1) + 1 from rfl, lp_L_isMap_s2]
    unfold lb2_L_isMap
    rw [w.tag, ob_s, e1, obW_l, dl_eq, wadd_s (by omega), eb, weq_s (by omega) (by omega), decide_eq_false hne, Bool.not_false, cond_true]
    exact e2
end IM
