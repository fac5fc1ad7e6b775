/-! ===== the law, whole ===== -/
section LY
variable {tb : List (List Int32)} {W : Wd} {s : kHS}
theorem xcmp_self (v : Nat) : xcmp v v = 0 := by
  unfold xcmp xlt xeq
  generalize Nat.mod (Nat.add v 9223372036854775808) 18446744073709551616 = a
  generalize Nat.mod v 18446744073709551616 = b
  rw [show Nat.ble (Nat.succ a) a = false from by
    cases h : Nat.ble (Nat.succ a) a with
    | false => rfl
    | true => exact absurd (Nat.le_of_ble_eq_true h) (Nat.not_succ_le_self a), cond_false, Nat.beq_refl, cond_true]
theorem law_2 (ht : tb.length = nS) (hx : ∀ h k, k < 100 → ∃ v, f_L_cell tb h 6 k = some v) {v : Nat} (hv : ∀ s, World s W → Ans (f_X9_digest tb (ad 0) s) v W) (hr1 : W.rc ≤ 100000) (hr2 : W.rl ≤ 1000000) : ∀ (l m f : Nat) (s : kHS), f + l = 3 → World s W → LawE (lp_L_law tb (m + l + 1) 2 6 (ad 0) 0 0 0 0 v f 0 s) := by
  intro l
  induction l with
  | zero =>
    intro m f s hf w
    have e : f = 3 := by omega
    subst e
    have hn5 := w.n5
    have c0 := (cnt_720 hn5.1 hn5.2 (f := 0) (by decide))
    have c2 := (cnt_720 hn5.1 hn5.2 (f := 2) (by decide))
    obtain ⟨z1, z2, z3⟩ := stN_ok hn5.1 hn5.2
    obtain ⟨s1, e1, w1⟩ := sorted_ok ht w (t := 6) (by decide)
    obtain ⟨s2, e2, w2⟩ := objects_ok ht w1 (f := 2) (by decide)
    obtain ⟨s3, e3, w3⟩ := sorted_ok ht w2 (t := 0) (by decide)
    obtain ⟨s4, e4, w4⟩ := sorted_ok ht w3 (t := 1) (by decide)
    obtain ⟨s5, e5, w5⟩ := objects_ok ht w4 (f := 0) (by decide)
    obtain ⟨s6, e6, w6⟩ := hv s5 w5
    rw [z1] at e1
    rw [z2] at e3
    rw [z3] at e4
    rw [show m + 0 + 1 = m + 1 from rfl, lp_L_law_s2]
    unfold lb2_L_law
    rw [show wle 3 3 = true from rfl, cond_true, w.tag, ob_s, e1, obW_l, w1.tag, ob_s, e2, obW_l, weq_s (by omega) (by omega), decide_eq_true rfl, Bool.not_true, cond_false, w2.tag, ob_s, e3, obW_l, show (!weq 1 1) = false from rfl, cond_false, w3.tag, ob_s, e4, obW_l, w4.tag, ob_s, e5, obW_l, weq_s (by omega) (by omega), decide_eq_true rfl, Bool.not_true, cond_false, w5.tag, ob_s, e6, obW_l, xcmp_self, show (!weq 0 0) = false from rfl, cond_false]
    obtain ⟨_, _, q1, q2⟩ := w6
    exact ⟨s6, rfl, by omega, by omega⟩
  | succ l ih =>
    intro m f s hf w
    have hn5 := w.n5
    have hf3 : f < 3 := by omega
    have hc := (cnt_720 hn5.1 hn5.2 hf3)
    obtain ⟨a, ha⟩ := hx s.1 f (by omega)
    obtain ⟨s1, e1, w1⟩ := objects_ok ht w hf3
    obtain ⟨b1, b2⟩ := below_ok (a := a) (b := cnt W.n f) hc.2 (show cnt W.n f < 2147483648 by omega)
    generalize wand a 2147483647 % cnt W.n f = k at b1 b2
    obtain ⟨s2, e2, w2⟩ := unrank_ok ht w1 hf3 b2
    obtain ⟨s3, e3, w3⟩ := rank_ok ht w2 hf3 b2
    have z := ih m (f + 1) s3 (by omega) w3
    rw [show m + (l + 1) + 1 = (m + l + 1) + 1 from rfl, lp_L_law_s2]
    unfold lb2_L_law
    rw [wle_s (by decide) (by omega), decide_eq_false (by omega), cond_false, ha, ob_s, w.tag, ob_s, e1, obW_l, b1, ob_s, w1.tag, ob_s, e2, obW_l, w2.tag, ob_s, e3, obW_l, weq_s (by omega) (by omega), decide_eq_true rfl, cond_true, dl_eq, wadd_s (by omega)]
    exact z
theorem law_run (ht : tb.length = nS) (hx : ∀ h k, k < 100 → ∃ v, f_L_cell tb h 6 k = some v) : ∀ (l r n : Nat) (W : Wd) (s : kHS), r + l = 40 → World s W → Kp W r → 20 * l + 20 ≤ n → LawE (lp_L_law tb n 0 6 (ad 0) W.n (ad 49) (ad 50) r 0 0 0 s) := by
  intro l
  induction l with
  | zero =>
    intro r n W s hr w k hn
    have e : r = 40 := by omega
    subst e
    obtain ⟨m, rfl⟩ : ∃ m, n = (m + 3 + 1) + 1 := ⟨n - 5, by omega⟩
    obtain ⟨v, hv⟩ := d_digest (tb := tb) (W := W) ht
    obtain ⟨s1, e1, w1⟩ := hv s w
    have e1' : f_X9_digest tb (ad 0) s = some (.inl v, s1) := e1
    have z := law_2 ht hx hv (by have := k.2.2.2.1; omega) (by have := k.2.2.2.2; omega) 3 m 0 s1 rfl w1
    rw [lp_L_law_s0]
    unfold lb0_L_law
    rw [show wle 40 40 = true from rfl, cond_true, w.tag, ob_s, e1', obW_l]
    exact z
  | succ l ih =>
    intro r n W s hr w k hn
    obtain ⟨p, rfl⟩ : ∃ p, n = p + 1 := ⟨n - 1, by omega⟩
    rw [lp_L_law_s0]
    refine law_0 ht hx (by omega) w k ?_
    intro W2 s2 w2 k2
    have h8 := w2.w6.2.2.2.2.2
    obtain ⟨m, hm⟩ : ∃ m, p = m + W2.ks.length + 1 := ⟨p - W2.ks.length - 1, by omega⟩
    rw [hm]
    exact law_1 ht (by omega) k2.1 (fun s3 w3 => ih (r + 1) m W2 s3 (by omega) w3 k2 (by omega)) W2.ks.length 0 s2 (Nat.zero_add _) w2
/-! the begin -/
theorem surv_init (H : List kCel) (c k : Nat) : f_X6_init (ad H.length) (H ++ [(c_X6, [.null, .null])], (c, k)) = some (.inl (), (H ++ [(c_X6, [.ref (nS + (H.length + 1)), .ref (nS + (H.length + 2))]), (100, ints (List.replicate 720 0)), (103, ints (List.replicate 720 0))], (c + 1 + 1, k + 720 + 720))) := by
  have e1 : dnewa nS 100 720 (H ++ [(c_X6, [.null, .null])], (c, k)) = some (ad (H.length + 1), (H ++ [(c_X6, [.null, .null]), (100, ints (List.replicate 720 0))], (c + 1, k + 720))) := by
    rw [dnewa_s (by decide), List.append_assoc, List.length_append, ints_zs]
    rfl
  have e2 : dnewa nS 103 720 (H ++ [(c_X6, [.ref (nS + (H.length + 1)), .null]), (100, ints (List.replicate 720 0))], (c + 1, k + 720)) = some (ad (H.length + 2), (H ++ [(c_X6, [.ref (nS + (H.length + 1)), .null]), (100, ints (List.replicate 720 0)), (103, ints (List.replicate 720 0))], (c + 1 + 1, k + 720 + 720))) := by
    rw [dnewa_s (by decide), List.append_assoc, List.length_append, ints_zs]
    rfl
  unfold f_X6_init
  rw [dnn_ad, ob_s, show dtab 3 6 = some 720 from by decide +kernel, ob_s, dl_eq, wmax0 (by decide), e1, ob_s]
  dsimp only
  rw [dput_app (Nat.le_of_ble_eq_true rfl) rfl, ob_s]
  dsimp only [List.set_cons_zero, List.set_cons_succ]
  rw [rv_ad, e2, ob_s]
  dsimp only
  rw [dput_app (Nat.le_of_ble_eq_true rfl) rfl, ob_s]
  dsimp only [List.set_cons_zero, List.set_cons_succ]
  rw [rv_ad]
  exact dchk_eq (show c ≤ c + 1 + 1 by omega) (show k ≤ k + 720 + 720 by omega)
def hou0 (a b d e f g : Value) : kCel := (c_X9, [a, b, d, e, f, g, .int 0, .int 0, .int 0, .int 0, .int 0])
def zz7 : kCel := (108, List.replicate 7 .null)
def sv2 : kCel := (c_X6, [.ref (nS + 3), .ref (nS + 4)])
def zs3 : kCel := (100, ints (List.replicate 720 0))
def zs4 : kCel := (103, ints (List.replicate 720 0))
def zz5 : kCel := (105, List.replicate 8 .null)
def zz6 : kCel := (106, List.replicate 4 .null)
def zz8 : kCel := (107, List.replicate 8 .null)
theorem hput {T : List kCel} {c : Nat × Nat} {k : Nat} {ty : FieldType} {vs : List Value} {v : Value} (hk : k < vs.length) (hv : kfit ty v = true) : dput nS c_X9 k ty ((c_X9, vs) :: T, c) (ad 0) v = some ((c_X9, vs.set k v) :: T, c) := dput_ad (hs := ((c_X9, vs) :: T, c)) (i := 0) rfl hk hv
theorem init_ok (ht : tb.length = nS) : ∃ h x y, f_X9_init tb (ad 0) ([hou0 .null .null .null .null .null .null], (1, 11)) = some (.inl (), (h, (x, y))) ∧ h.length = 49 ∧ x ≤ 100 ∧ y ≤ 9000 ∧ h[0]? = some (houC 8 0 0 0 0 0) ∧ h[1]? = some (108, rvs ((List.replicate 7 0).set 3 (ad 8))) ∧ SurvAt h (List.replicate 720 0) (List.replicate 720 0) ∧ h[5]? = some (105, rvs (List.replicate 8 0)) ∧ h[6]? = some (106, rvs (List.replicate 4 0)) ∧ h[7]? = some (107, rvs (List.replicate 8 0)) ∧ Rl h 8 3 := by
  have a1 : dnewa nS 108 7 ([hou0 .null .null .null .null .null .null], (1, 11)) = some (ad 1, ([hou0 .null .null .null .null .null .null, zz7], (2, 18))) := dnewa_s (by decide)
  have a2 : dput nS c_X9 0 (.array (.object "Bijectory$Realm")) ([hou0 .null .null .null .null .null .null, zz7], (2, 18)) (ad 0) (rv (ad 1)) = some ([hou0 (.ref (nS + 1)) .null .null .null .null .null, zz7], (2, 18)) := hput (Nat.le_of_ble_eq_true rfl) rfl
  have a3 : dnew nS c_X6 2 [.null, .null] ([hou0 (.ref (nS + 1)) .null .null .null .null .null, zz7], (2, 18)) = some (ad 2, ([hou0 (.ref (nS + 1)) .null .null .null .null .null, zz7] ++ [(c_X6, [.null, .null])], (3, 20))) := rfl
  have a4 : f_X6_init (ad 2) ([hou0 (.ref (nS + 1)) .null .null .null .null .null, zz7] ++ [(c_X6, [.null, .null])], (3, 20)) = some (.inl (), ([hou0 (.ref (nS + 1)) .null .null .null .null .null, zz7, sv2, zs3, zs4], (5, 1460))) := surv_init [hou0 (.ref (nS + 1)) .null .null .null .null .null, zz7] 3 20
  have a5 : dput nS c_X9 1 (.object "Bijectory$Survey") ([hou0 (.ref (nS + 1)) .null .null .null .null .null, zz7, sv2, zs3, zs4], (5, 1460)) (ad 0) (rv (ad 2)) = some ([hou0 (.ref (nS + 1)) (.ref (nS + 2)) .null .null .null .null, zz7, sv2, zs3, zs4], (5, 1460)) := hput (Nat.le_of_ble_eq_true rfl) rfl
  have a6 : dnewa nS 105 8 ([hou0 (.ref (nS + 1)) (.ref (nS + 2)) .null .null .null .null, zz7, sv2, zs3, zs4], (5, 1460)) = some (ad 5, ([hou0 (.ref (nS + 1)) (.ref (nS + 2)) .null .null .null .null, zz7, sv2, zs3, zs4, zz5], (6, 1468))) := dnewa_s (by decide)
  have a7 : dput nS c_X9 2 (.array (.object "Bijectory$Chart")) ([hou0 (.ref (nS + 1)) (.ref (nS + 2)) .null .null .null .null, zz7, sv2, zs3, zs4, zz5], (6, 1468)) (ad 0) (rv (ad 5)) = some ([hou0 (.ref (nS + 1)) (.ref (nS + 2)) (.ref (nS + 5)) .null .null .null, zz7, sv2, zs3, zs4, zz5], (6, 1468)) := hput (Nat.le_of_ble_eq_true rfl) rfl
  have a8 : dnewa nS 106 4 ([hou0 (.ref (nS + 1)) (.ref (nS + 2)) (.ref (nS + 5)) .null .null .null, zz7, sv2, zs3, zs4, zz5], (6, 1468)) = some (ad 6, ([hou0 (.ref (nS + 1)) (.ref (nS + 2)) (.ref (nS + 5)) .null .null .null, zz7, sv2, zs3, zs4, zz5, zz6], (7, 1472))) := dnewa_s (by decide)
  have a9 : dput nS c_X9 3 (.array (.object "Bijectory$Walker")) ([hou0 (.ref (nS + 1)) (.ref (nS + 2)) (.ref (nS + 5)) .null .null .null, zz7, sv2, zs3, zs4, zz5, zz6], (7, 1472)) (ad 0) (rv (ad 6)) = some ([hou0 (.ref (nS + 1)) (.ref (nS + 2)) (.ref (nS + 5)) (.ref (nS + 6)) .null .null, zz7, sv2, zs3, zs4, zz5, zz6], (7, 1472)) := hput (Nat.le_of_ble_eq_true rfl) rfl
  have b1 : dnewa nS 107 8 ([hou0 (.ref (nS + 1)) (.ref (nS + 2)) (.ref (nS + 5)) (.ref (nS + 6)) .null .null, zz7, sv2, zs3, zs4, zz5, zz6], (7, 1472)) = some (ad 7, ([hou0 (.ref (nS + 1)) (.ref (nS + 2)) (.ref (nS + 5)) (.ref (nS + 6)) .null .null, zz7, sv2, zs3, zs4, zz5, zz6, zz8], (8, 1480))) := dnewa_s (by decide)
  have b2 : dput nS c_X9 4 (.array (.object "Bijectory$Claim")) ([hou0 (.ref (nS + 1)) (.ref (nS + 2)) (.ref (nS + 5)) (.ref (nS + 6)) .null .null, zz7, sv2, zs3, zs4, zz5, zz6, zz8], (8, 1480)) (ad 0) (rv (ad 7)) = some ([hou0 (.ref (nS + 1)) (.ref (nS + 2)) (.ref (nS + 5)) (.ref (nS + 6)) (.ref (nS + 7)) .null, zz7, sv2, zs3, zs4, zz5, zz6, zz8], (8, 1480)) := hput (Nat.le_of_ble_eq_true rfl) rfl
  generalize hH : [hou0 (.ref (nS + 1)) (.ref (nS + 2)) (.ref (nS + 5)) (.ref (nS + 6)) (.ref (nS + 7)) .null, zz7, sv2, zs3, zs4, zz5, zz6, zz8] = H at b2
  have hHl : H.length = 8 := by rw [← hH]; rfl
  obtain ⟨h, c1, c2, c3, c4⟩ := realm_of (tb := tb) ht (good_n 3 (by decide) (by decide)) H 8 1480
  rw [hHl] at c1 c2 c3 c4
  have hat : ∀ q z, q < 8 → H[q]? = some z → h[q]? = some z := fun q z hq hz => (c4 q hq).trans hz
  have q0 : h[0]? = some (hou0 (.ref (nS + 1)) (.ref (nS + 2)) (.ref (nS + 5)) (.ref (nS + 6)) (.ref (nS + 7)) .null) := hat 0 _ (by decide) (by rw [← hH]; rfl)
  have q1 : h[1]? = some zz7 := hat 1 _ (by decide) (by rw [← hH]; rfl)
  have p0 : dput nS c_X9 5 (.object "Bijectory$Realm") (h, (8 + 41, 1480 + 6 + (pcn 3 + ocn 3 + 11 + 11 * ocn 3 + 12 + 12 * ocn 3 + 12 + 12 * 37))) (ad 0) (rv (ad 8)) = some (h.set 0 (houC 8 0 0 0 0 0), (8 + 41, 1480 + 6 + (pcn 3 + ocn 3 + 11 + 11 * ocn 3 + 12 + 12 * ocn 3 + 12 + 12 * 37))) := dput_ad (hs := (h, _)) q0 (Nat.le_of_ble_eq_true rfl) rfl
  have r0 : (h.set 0 (houC 8 0 0 0 0 0))[0]? = some (houC 8 0 0 0 0 0) := List.getElem?_set_self (lt_of_at q0)
  have r1 : (h.set 0 (houC 8 0 0 0 0 0))[1]? = some (108, rvs (List.replicate 7 0)) := by
    rw [List.getElem?_set_ne (by decide), q1]
    rfl
  have rw8 : ∀ q, 1 ≤ q → (h.set 0 (houC 8 0 0 0 0 0))[q]? = h[q]? := fun q hq => List.getElem?_set_ne (by omega)
  have p1 := dastA_rvs (hs := (h.set 0 (houC 8 0 0 0 0 0), (8 + 41, 1480 + 6 + (pcn 3 + ocn 3 + 11 + 11 * ocn 3 + 12 + 12 * ocn 3 + 12 + 12 * 37)))) (i := 1) (j := 3) (x := 8) r1 ((rw8 8 (by decide)).trans c2.1) (by decide) (by decide)
  refine ⟨(h.set 0 (houC 8 0 0 0 0 0)).set 1 (108, rvs ((List.replicate 7 0).set 3 (ad 8))), 8 + 41, 1480 + 6 + (pcn 3 + ocn 3 + 11 + 11 * ocn 3 + 12 + 12 * ocn 3 + 12 + 12 * 37), ?_, ?_, by decide, by decide, ?_, ?_, ⟨?_, ?_, ?_, ?_, ?_, ?_, ?_⟩, ?_, ?_, ?_, ?_⟩
  · unfold f_X9_init
    rw [dnn_ad, ob_s, a1, ob_s]
    (try dsimp only)
    rw [a2, ob_s, a3, ob_s]
    (try dsimp only)
    rw [dnn_ad, ob_s, a4, obW_l]
    (try dsimp only)
    rw [a5, ob_s, a6, ob_s]
    (try dsimp only)
    rw [a7, ob_s, a8, ob_s]
    (try dsimp only)
    rw [a9, ob_s, b1, ob_s]
    (try dsimp only)
    rw [b2, ob_s, c1, obW_l, p0, ob_s]
    (try dsimp only)
    rw [dgR_ad (k := 0) (a := 1) r0 rfl, ob_s, dalen_ad ht r1 rfl, ob_s, show wle (List.length (Prod.snd ((108, rvs (List.replicate 7 0)) : kCel))) 3 = false from rfl, cond_false, ob_s, dgR_ad (k := 5) (a := 8) r0 rfl, ob_s, p1, ob_s]
    exact dchk_eq (show 1 ≤ 8 + 41 by decide) (show 11 ≤ 1480 + 6 + (pcn 3 + ocn 3 + 11 + 11 * ocn 3 + 12 + 12 * ocn 3 + 12 + 12 * 37) by decide)
  · rw [List.length_set, List.length_set, c3]
  · rw [List.getElem?_set_ne (by decide)]
    exact r0
  · exact List.getElem?_set_self (lt_of_at r1)
  · rw [List.getElem?_set_ne (by decide), rw8 2 (by decide)]
    exact hat 2 _ (by decide) (by rw [← hH]; rfl)
  · rw [List.getElem?_set_ne (by decide), rw8 3 (by decide)]
    exact hat 3 _ (by decide) (by rw [← hH]; rfl)
  · rw [List.getElem?_set_ne (by decide), rw8 4 (by decide)]
    exact hat 4 _ (by decide) (by rw [← hH]; rfl)
  · exact List.length_replicate
  · exact List.length_replicate
  · exact sm_zs _
  · intro x hx
    rw [(List.mem_replicate.mp hx).2]
    decide
  · rw [List.getElem?_set_ne (by decide), rw8 5 (by decide)]
    exact hat 5 _ (by decide) (by rw [← hH]; rfl)
  · rw [List.getElem?_set_ne (by decide), rw8 6 (by decide)]
    exact hat 6 _ (by decide) (by rw [← hH]; rfl)
  · rw [List.getElem?_set_ne (by decide), rw8 7 (by decide)]
    exact hat 7 _ (by decide) (by rw [← hH]; rfl)
  · exact ⟨c2.ag (fun x a b => by rw [List.getElem?_set_ne (by omega), rw8 x (by omega)]), by decide, by decide⟩
theorem two_app {h : List kCel} (z y : kCel) (hl : h.length = 49) : (h ++ [z] ++ [y])[49]? = some z ∧ (h ++ [z] ++ [y])[50]? = some y ∧ ∀ q, q < 49 → (h ++ [z] ++ [y])[q]? = h[q]? := by
  rw [List.append_assoc]
  refine ⟨?_, ?_, fun q hq => app_lt (by omega)⟩
  · have := app_at h [y] z
    rw [hl] at this
    exact this
  · have := app_ge h [y] z 0
    rw [hl] at this
    exact this
def W0 (x y : Nat) : Wd := Wd.mk 3 [] [] [] 0 0 (List.replicate 8 0) (List.replicate 8 0) x y
theorem law_begin (ht : tb.length = nS) (hx : ∀ h k, k < 100 → ∃ v, f_L_cell tb h 6 k = some v) : LawE (f_L_law tb 6 ([], (0, 0))) := by
  obtain ⟨h, x, y, e1, hl, hx1, hy1, g0, g1, g2, g5, g6, g7, g8⟩ := init_ok (tb := tb) ht
  have z0 : dnew nS c_X9 11 [.null, .null, .null, .null, .null, .null, .int 0, .int 0, .int 0, .int 0, .int 0] ([], (0, 0)) = some (ad 0, ([hou0 .null .null .null .null .null .null], (1, 11))) := rfl
  have z1 : dnewa nS 100 8 (h, (x, y)) = some (ad 49, (h ++ [((100, ints (List.replicate 8 0)) : kCel)], (x + 1, y + 8))) := by
    rw [dnewa_s (by decide), ints_zs, hl]
    rfl
  have z2 : dnewa nS 100 8 (h ++ [((100, ints (List.replicate 8 0)) : kCel)], (x + 1, y + 8)) = some (ad 50, (h ++ [((100, ints (List.replicate 8 0)) : kCel)] ++ [((100, ints (List.replicate 8 0)) : kCel)], (x + 1 + 1, y + 8 + 8))) := by
    rw [dnewa_s (by decide), List.length_append, hl, ints_zs]
    rfl
  obtain ⟨t1, t2, t3⟩ := two_app ((100, ints (List.replicate 8 0)) : kCel) ((100, ints (List.replicate 8 0)) : kCel) hl
  have w : World (h ++ [((100, ints (List.replicate 8 0)) : kCel)] ++ [((100, ints (List.replicate 8 0)) : kCel)], (x + 1 + 1, y + 8 + 8)) (W0 (x + 1 + 1) (y + 8 + 8)) := by
    refine ⟨Gh.mk (fun x => if x = 0 then 100 else if x = 1 then 101 else if x < 5 then 102 else if x = 5 then 105 else if x = 6 then 106 else if x = 7 then 107 else if x < 49 then 1 else if x = 49 then 149 else 150) 8 ((List.replicate 7 0).set 3 (ad 8)) (List.replicate 8 0) (List.replicate 4 0) (List.replicate 8 0) (fun _ => 0) (fun _ => 0) (fun _ => 0), ?_, rfl, rfl⟩
    have n0 : ∀ j, ¬ j < ([] : List Nat).length := fun j => Nat.not_lt_zero j
    exact WC.mk (house := (t3 0 (by decide)).trans g0) (rarr := (t3 1 (by decide)).trans g1) (rlen := rfl) (rcur := rfl)
      (rl := fun k a hk => by
        by_cases e : k = 3
        · subst e
          cases hk
          refine Or.inr ⟨8, rfl, ⟨g8.1.ag (fun q q1 q2 => t3 q (by omega)), by decide, by decide⟩, ?_, fun q q1 q2 => ?_⟩
          · rw [List.length_append, List.length_append, hl]
            decide
          · show (if q = 0 then 100 else if q = 1 then 101 else if q < 5 then 102 else if q = 5 then 105 else if q = 6 then 106 else if q = 7 then 107 else if q < 49 then 1 else if q = 49 then 149 else 150) = 1
            rw [if_neg (by omega), if_neg (by omega), if_neg (by omega), if_neg (by omega), if_neg (by omega), if_neg (by omega), if_pos (by omega)]
        · refine Or.inl ?_
          have hk2 : ((List.replicate 7 0).set 3 (ad 8))[k]? = some a := hk
          rw [List.getElem?_set_ne (fun e2 => e e2.symm)] at hk2
          exact (List.mem_replicate.mp (List.mem_of_getElem? hk2)).2)
      (surv := ⟨_, _, (t3 2 (by decide)).trans g2.1, (t3 3 (by decide)).trans g2.2.1, (t3 4 (by decide)).trans g2.2.2.1, g2.2.2.2⟩)
      (carr := (t3 5 (by decide)).trans g5) (clen := rfl) (cat := fun j hj => absurd hj (Nat.not_lt_zero j)) (ch := fun j hj => absurd hj (Nat.not_lt_zero j))
      (warr := (t3 6 (by decide)).trans g6) (wlen := rfl) (wat := fun j hj => absurd hj (Nat.not_lt_zero j)) (wk := fun j hj => absurd hj (Nat.not_lt_zero j))
      (karr := (t3 7 (by decide)).trans g7) (klen := rfl) (kat := fun j hj => absurd hj (Nat.not_lt_zero j)) (kl := fun j hj => absurd hj (Nat.not_lt_zero j))
      (lens := ⟨Nat.zero_le _, Nat.zero_le _, Nat.zero_le _, (by decide : 0 < 1000000), (by decide : 0 < 1000000), fun z hz => absurd hz List.not_mem_nil⟩)
      (fx := ⟨rfl, rfl, ⟨rfl, rfl, rfl⟩, rfl, rfl, rfl, rfl, rfl⟩)
      (lrf := t1) (ltd := t2) (lln := ⟨rfl, rfl, sm_zs _, sm_zs _⟩)
  have k : Kp (W0 (x + 1 + 1) (y + 8 + 8)) 0 := ⟨fun j hj => absurd hj (Nat.not_lt_zero j), Nat.le_refl _, Nat.le_refl _, show x + 1 + 1 ≤ 1000 + 100 * 0 by omega, show y + 8 + 8 ≤ 10000 + 5000 * 0 by omega⟩
  obtain ⟨s2, e2, q1, q2⟩ := law_run ht hx 40 0 dF _ _ rfl w k (by decide)
  have e2' : lp_L_law tb dF 0 6 (ad 0) 3 (ad 49) (ad 50) 0 0 0 0 (h ++ [((100, ints (List.replicate 8 0)) : kCel)] ++ [((100, ints (List.replicate 8 0)) : kCel)], (x + 1 + 1, y + 8 + 8)) = some (.inl 1, s2) := e2
  refine ⟨s2, ?_, q1, q2⟩
  unfold f_L_law
  rw [z0, ob_s]
  dsimp only
  rw [dnn_ad, ob_s, e1, obW_l, z1, ob_s]
  dsimp only
  rw [z2, ob_s]
  dsimp only
  rw [e2']
  exact dchk_eq (Nat.zero_le _) (Nat.zero_le _)
end LY
def lawD : Nat := 40
theorem law_ok (xl : List Int32) (h : xl.length ≤ 260) : ∃ hs : kHS, kEv (kM (kT7 ++ [xl])) kML 111 lawD [rv 6] ([], 0, 0) (.inl (some (.int 1)), hs) ∧ hs.2.1 ≤ room_1.cells ∧ hs.2.2 ≤ room_1.slots := by
  have ht : (kT7 ++ [xl]).length = nS := by
    rw [List.length_append]
    rfl
  have htb : kTab (kT7 ++ [xl]) := fun k hk => List.getElem?_append_left hk
  obtain ⟨s, e, q1, q2⟩ := law_begin (tb := kT7 ++ [xl]) ht (fun h2 k hk => cell_ok h h2 hk)
  obtain ⟨F0, hF⟩ := T_L_law htb 6 ([], 0, 0) _ e
  exact ⟨s, ⟨F0, fun F h1 d h2 => hF F h1 d (Nat.le_trans (by decide) h2)⟩, Nat.le_trans q1 (show 100000 ≤ room_1.cells by decide), Nat.le_trans q2 (show 1000000 ≤ room_1.slots by decide)⟩
