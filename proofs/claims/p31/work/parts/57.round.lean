/-! ===== one round of the law, case by case ===== -/
section LX
variable {tb : List (List Int32)} {W : Wd} {s : kHS}
/-- the law answers 1, within its room -/
def LawE (o : Option (dR Nat)) : Prop := ∃ hs' : kHS, o = some (.inl 1, hs') ∧ hs'.2.1 ≤ 100000 ∧ hs'.2.2 ≤ 1000000
abbrev LawF : Type := Nat → Nat → Nat → Nat → Nat → Nat → Nat → Nat → Nat → Nat → kHS → Option (dR Nat)
def LawH (ih : LawF) (r : Nat) : Prop := ∀ (W' : Wd) (s : kHS), World s W' → Kp W' (r + 1) → LawE (ih 1 6 (ad 0) W'.n (ad 49) (ad 50) r 0 0 0 s)
theorem Kp.to {W' : Wd} {r : Nat} (k : Kp W r) (hc : Kc W') (h1 : W'.tr ≤ W.tr + 1) (h2 : W'.tl ≤ W.tl + 1) (h3 : W'.rc ≤ W.rc + 100) (h4 : W'.rl ≤ W.rl + 5000) : Kp W' (r + 1) := by
  obtain ⟨k1, k2, k3, k4, k5⟩ := k
  exact ⟨hc, by omega, by omega, by omega, Nat.le_trans h4 (by rw [Nat.mul_add_one, ← Nat.add_assoc]; exact Nat.add_le_add_right k5 5000)⟩
theorem Kp.st {r : Nat} (k : Kp W r) : Kp W (r + 1) := k.to k.1 (by omega) (by omega) (by omega) (by omega)
def Wd.row (W : Wd) : Wd := Wd.mk W.n W.cs W.ws W.ks W.tr W.tl W.rf W.td (W.rc + 1) (W.rl + 3)
theorem WC.row {h : List kCel} {g : Gh} (w : WC h W g) (z : kCel) : WC (h ++ [z]) W.row (Gh.mk (fun x => if x < h.length then g.own x else 999) g.p g.rs g.ca g.wa g.ka g.ci g.wi g.ki) := by
  have hh := w.hlen
  have f : Fr (fun o => o = 999) g.own (fun x => if x < h.length then g.own x else 999) h (h ++ [z]) := Fr.app
  unfold Wd.row
  exact WC.mk (house := (f.at w.house w.fx.1 (show ¬ ((100) = 999) by omega)).1) (rarr := (f.at w.rarr w.fx.2.1 (show ¬ ((101) = 999) by omega)).1) (rlen := w.rlen) (rcur := w.rcur) (rl := (fun k a e => f.rl (show ¬ ((1) = 999) by omega) (w.rl k a e))) (surv := (f.sv (show ¬ ((102) = 999) by omega) w.fx.2.2.1 w.surv)) (carr := (f.at w.carr w.fx.2.2.2.1 (show ¬ ((105) = 999) by omega)).1) (clen := w.clen) (cat := w.cat) (ch := (fun x hx => f.ch (show ¬ ((10 + x) = 999) by have hxx : x < W.cs.length := hx; have := w.lens; omega) (w.ch x hx))) (warr := (f.at w.warr w.fx.2.2.2.2.1 (show ¬ ((106) = 999) by omega)).1) (wlen := w.wlen) (wat := w.wat) (wk := (fun x hx => f.wk (show ¬ ((20 + x) = 999) by have hxx : x < W.ws.length := hx; have := w.lens; omega) (w.wk x hx))) (karr := (f.at w.karr w.fx.2.2.2.2.2.1 (show ¬ ((107) = 999) by omega)).1) (klen := w.klen) (kat := w.kat) (kl := (fun x hx => f.kl (show ¬ ((30 + x) = 999) by have hxx : x < W.ks.length := hx; have := w.lens; omega) (w.kl x hx))) (lens := w.lens) (fx := (f.fx (fun x hx9 => ⟨by omega, if_pos (by omega)⟩) w.fx)) (lrf := (f.at w.lrf w.fx.2.2.2.2.2.2.1 (show ¬ ((149) = 999) by omega)).1) (ltd := (f.at w.ltd w.fx.2.2.2.2.2.2.2 (show ¬ ((150) = 999) by omega)).1) (lln := w.lln)
theorem dast_app {h : List kCel} {c : Nat × Nat} {xs : List Nat} {j v : Nat} (hj : j < xs.length) (hl : xs.length < 2147483648) : dast nS 100 (h ++ [(100, ints xs)], c) (ad h.length) j (.int (nI v)) = some (h ++ [(100, ints (xs.set j v))], c) := by
  rw [dast_row (hs := (h ++ [(100, ints xs)], c)) (app_at h [] _) hj hl]
  dsimp only
  rw [app_set]
theorem wmax1 : ∀ m, m < 9 → 1 ≤ wmax 1 m ∧ wmax 1 m < 2147483648 ∧ (0 < m → wmax 1 m = m) := by decide +kernel
theorem rnd_k : ∀ r, r < 40 → wrem r 16 < 100 ∧ wrem (wadd (wmul 7 r) 3) 16 < 100 := by decide +kernel
theorem lor_0 (a : Nat) : wor 0 a = a := Nat.zero_or a
theorem lor_z (a : Nat) : wor a 0 = a := Nat.or_zero a

noncomputable def lc_0 (tb : List (List Int32)) (ih : LawF) (v0 v1 v2 v3 v4 v5I x349 x354 x355 x360 x365 x370 : Nat) (s366 : kHS) : Option (dR Nat) := ob (f_L_below x354 5) fun x375 => dl (wadd 1 x375) fun x379 => ob (dtag nS c_X9 s366.1 v1) fun _ => obW (f_X9_size tb v1 x379 s366) fun x380 s381 => bif !weq x380 x365 then (ob (dz 0) fun v => some (.inl v, s381)) else (ob (dtag nS c_X9 s381.1 v1) fun _ => obW (f_X9_many tb v1 2 s381) fun x382 s383 => bif !weq x382 0 then (ob (dz 0) fun v => some (.inl v, s383)) else (ob (dtag nS c_X9 s383.1 v1) fun _ => obW (f_X9_many tb v1 0 s383) fun x384 s385 => bif weq x384 x379 then (ih 1 v0 v1 x379 v3 v4 v5I 0 0 0 s385) else (ob (dz 0) fun v => some (.inl v, s385))))
noncomputable def lc_1 (tb : List (List Int32)) (ih : LawF) (v0 v1 v2 v3 v4 v5I x349 x354 x355 x360 x365 x370 : Nat) (s366 : kHS) : Option (dR Nat) := bif wle 8 x355 then (ih 1 v0 v1 v2 v3 v4 v5I 0 0 0 s366) else (ob (f_L_below x354 11) fun x392 => ob (dtag nS c_X9 s366.1 v1) fun _ => obW (f_X9_map tb v1 x392 s366) fun x393 s394 => bif !weq x393 x355 then (ob (dz 0) fun v => some (.inl v, s394)) else (ob (dtag nS c_X9 s394.1 v1) fun _ => obW (f_X9_ofMap tb v1 x355 2 s394) fun x395 s396 => bif weq x395 1 then (ih 1 v0 v1 v2 v3 v4 v5I 0 0 0 s396) else (ob (dz 0) fun v => some (.inl v, s396))))
noncomputable def lc_2 (tb : List (List Int32)) (ih : LawF) (v0 v1 v2 v3 v4 v5I x349 x354 x355 x360 x365 x370 : Nat) (s366 : kHS) : Option (dR Nat) := bif wle 8 x355 then (ih 1 v0 v1 v2 v3 v4 v5I 0 0 0 s366) else (ob (f_L_below x354 11) fun x403 => ob (dtag nS c_X9 s366.1 v1) fun _ => obW (f_X9_map tb v1 x403 s366) fun x404 s405 => bif !weq x404 x355 then (ob (dz 0) fun v => some (.inl v, s405)) else (ob (dtag nS c_X9 s405.1 v1) fun _ => obW (f_X9_ofMap tb v1 x355 2 s405) fun x406 s407 => bif weq x406 1 then (ih 1 v0 v1 v2 v3 v4 v5I 0 0 0 s407) else (ob (dz 0) fun v => some (.inl v, s407))))
noncomputable def lc_3 (tb : List (List Int32)) (ih : LawF) (v0 v1 v2 v3 v4 v5I x349 x354 x355 x360 x365 x370 : Nat) (s366 : kHS) : Option (dR Nat) := bif wle x355 0 then (ih 1 v0 v1 v2 v3 v4 v5I 0 0 0 s366) else (ob (dtag nS c_X9 s366.1 v1) fun _ => obW (f_X9_ofMap tb v1 x370 2 s366) fun x414 s415 => bif wle 6 x414 then (ih 1 v0 v1 v2 v3 v4 v5I 0 0 0 s415) else (ob (dtag nS c_X9 s415.1 v1) fun _ => obW (f_X9_ofMap tb v1 x370 7 s415) fun x419 s420 => bif !weq x419 0 then (ih 1 v0 v1 v2 v3 v4 v5I 0 0 0 s420) else (ob (dnewa nS 100 3 s420) fun q424 => ob (dast nS 100 q424.2 q424.1 0 (.int (nI 0))) fun s425 => ob (dast nS 100 s425 q424.1 1 (.int (nI 2))) fun s426 => ob (dast nS 100 s426 q424.1 2 (.int (nI 8))) fun s427 => ob (dtag nS c_X9 s427.1 v1) fun _ => obW (f_X9_ofMap tb v1 x370 1 s427) fun x428 s429 => ob (daldI tb s429.1 q424.1 x428) fun x430 => ob (f_L_below (wdiv x349 3) 2) fun x431 => dl (wadd x430 x431) fun x435 => ob (dtag nS c_X9 s429.1 v1) fun _ => obW (f_X9_then tb v1 x370 x435 s429) fun x436 s437 => ob (dtag nS c_X9 s437.1 v1) fun _ => obW (f_X9_ofMap tb v1 x370 2 s437) fun x438 s439 => bif weq x436 x438 then (ih 1 v0 v1 v2 v3 v4 v5I 0 0 0 s439) else (ob (dz 0) fun v => some (.inl v, s439)))))
noncomputable def lc_4 (tb : List (List Int32)) (ih : LawF) (v0 v1 v2 v3 v4 v5I x349 x354 x355 x360 x365 x370 : Nat) (s366 : kHS) : Option (dR Nat) := bif wle x355 0 then (ih 1 v0 v1 v2 v3 v4 v5I 0 0 0 s366) else (ob (dtag nS c_X9 s366.1 v1) fun _ => obW (f_X9_ofMap tb v1 x370 2 s366) fun x446 s447 => bif wle 6 x446 then (ih 1 v0 v1 v2 v3 v4 v5I 0 0 0 s447) else (ob (dtag nS c_X9 s447.1 v1) fun _ => obW (f_X9_ofMap tb v1 x370 7 s447) fun x451 s452 => bif !weq x451 0 then (ih 1 v0 v1 v2 v3 v4 v5I 0 0 0 s452) else (ob (dnewa nS 100 3 s452) fun q456 => ob (dast nS 100 q456.2 q456.1 0 (.int (nI 0))) fun s457 => ob (dast nS 100 s457 q456.1 1 (.int (nI 2))) fun s458 => ob (dast nS 100 s458 q456.1 2 (.int (nI 8))) fun s459 => ob (dtag nS c_X9 s459.1 v1) fun _ => obW (f_X9_ofMap tb v1 x370 1 s459) fun x460 s461 => ob (daldI tb s461.1 q456.1 x460) fun x462 => ob (f_L_below (wdiv x349 3) 2) fun x463 => dl (wadd x462 x463) fun x467 => ob (dtag nS c_X9 s461.1 v1) fun _ => obW (f_X9_then tb v1 x370 x467 s461) fun x468 s469 => ob (dtag nS c_X9 s469.1 v1) fun _ => obW (f_X9_ofMap tb v1 x370 2 s469) fun x470 s471 => bif weq x468 x470 then (ih 1 v0 v1 v2 v3 v4 v5I 0 0 0 s471) else (ob (dz 0) fun v => some (.inl v, s471)))))
noncomputable def lc_5 (tb : List (List Int32)) (ih : LawF) (v0 v1 v2 v3 v4 v5I x349 x354 x355 x360 x365 x370 : Nat) (s366 : kHS) : Option (dR Nat) := bif wle x355 0 then (ih 1 v0 v1 v2 v3 v4 v5I 0 0 0 s366) else (ob (dtag nS c_X9 s366.1 v1) fun _ => obW (f_X9_ofMap tb v1 x370 2 s366) fun x478 s479 => bif wle 6 x478 then (ih 1 v0 v1 v2 v3 v4 v5I 0 0 0 s479) else (ob (dtag nS c_X9 s479.1 v1) fun _ => obW (f_X9_ofMap tb v1 x370 7 s479) fun x483 s484 => bif !weq x483 0 then (ih 1 v0 v1 v2 v3 v4 v5I 0 0 0 s484) else (ob (dnewa nS 100 3 s484) fun q488 => ob (dast nS 100 q488.2 q488.1 0 (.int (nI 0))) fun s489 => ob (dast nS 100 s489 q488.1 1 (.int (nI 2))) fun s490 => ob (dast nS 100 s490 q488.1 2 (.int (nI 8))) fun s491 => ob (dtag nS c_X9 s491.1 v1) fun _ => obW (f_X9_ofMap tb v1 x370 1 s491) fun x492 s493 => ob (daldI tb s493.1 q488.1 x492) fun x494 => ob (f_L_below (wdiv x349 3) 2) fun x495 => dl (wadd x494 x495) fun x499 => ob (dtag nS c_X9 s493.1 v1) fun _ => obW (f_X9_then tb v1 x370 x499 s493) fun x500 s501 => ob (dtag nS c_X9 s501.1 v1) fun _ => obW (f_X9_ofMap tb v1 x370 2 s501) fun x502 s503 => bif weq x500 x502 then (ih 1 v0 v1 v2 v3 v4 v5I 0 0 0 s503) else (ob (dz 0) fun v => some (.inl v, s503)))))
noncomputable def lc_6 (tb : List (List Int32)) (ih : LawF) (v0 v1 v2 v3 v4 v5I x349 x354 x355 x360 x365 x370 : Nat) (s366 : kHS) : Option (dR Nat) := bif wle 4 x365 then (ih 1 v0 v1 v2 v3 v4 v5I 0 0 0 s366) else (ob (f_L_below (wdiv x349 3) 3) fun x510 => ob (f_L_below (wdiv x349 3) 3) fun x511 => ob (f_L_below (wdiv x349 3) 3) fun x512 => ob (dtag nS c_X9 s366.1 v1) fun _ => obW (f_X9_objects tb v1 x512 s366) fun x513 s514 => ob (f_L_below x354 x513) fun x515 => ob (dtag nS c_X9 s514.1 v1) fun _ => obW (f_X9_unrank tb v1 x511 x515 s514) fun x516 s517 => ob (dtag nS c_X9 s517.1 v1) fun _ => obW (f_X9_walker tb v1 x510 x516 s517) fun x518 s519 => bif weq x518 x365 then (ih 1 v0 v1 v2 v3 v4 v5I 0 0 0 s519) else (ob (dz 0) fun v => some (.inl v, s519)))
noncomputable def lc_7 (tb : List (List Int32)) (ih : LawF) (v0 v1 v2 v3 v4 v5I x349 x354 x355 x360 x365 x370 : Nat) (s366 : kHS) : Option (dR Nat) := bif wle x365 0 then (ih 1 v0 v1 v2 v3 v4 v5I 0 0 0 s366) else (bif wle x355 0 then (ih 1 v0 v1 v2 v3 v4 v5I 0 0 0 s366) else (ob (f_L_below (wdiv x349 5) x365) fun x529 => obW (f_L_isSent tb v1 x529 x370 s366) fun x530 s531 => bif !weq x530 0 then (ih 1 v0 v1 v2 v3 v4 v5I 0 0 0 s531) else (ob (dz 0) fun v => some (.inl v, s531))))
noncomputable def lc_8 (tb : List (List Int32)) (ih : LawF) (v0 v1 v2 v3 v4 v5I x349 x354 x355 x360 x365 x370 : Nat) (s366 : kHS) : Option (dR Nat) := bif weq x360 8 then (ih 1 v0 v1 v2 v3 v4 v5I 0 0 0 s366) else (bif !weq x355 0 then (ob (f_L_below (wdiv x349 3) 4) fun x538 => ob (f_L_below (wdiv x349 5) 4) fun x539 => ob (dtag nS c_X9 s366.1 v1) fun _ => obW (f_X9_claim tb v1 x370 x538 x539 s366) fun x540 s541 => bif !weq x540 x360 then (ob (dz 0) fun v => some (.inl v, s541)) else (ob (dtag nS c_X9 s541.1 v1) fun _ => obW (f_X9_ofMap tb v1 x370 7 s541) fun x542 s543 => bif weq x542 1 then (ob (dast nS 100 s543 v4 x360 (.int (nI (wshl 1 v2)))) fun s544 => ob (f_L_below (wdiv x349 3) 4) fun x545 => ob (f_L_below (wdiv x349 5) 4) fun x546 => ob (dtag nS c_X9 s544.1 v1) fun _ => obW (f_X9_against tb v1 x370 x545 x546 s544) fun x547 s548 => bif wle 0 x547 then (ob (dast nS 100 s548 v3 x360 (.int (nI (wshl 1 v2)))) fun s549 => ih 1 v0 v1 v2 v3 v4 v5I 0 0 0 s549) else (ob (dast nS 100 s548 v3 x360 (.int (nI 0))) fun s553 => ih 1 v0 v1 v2 v3 v4 v5I 0 0 0 s553)) else (ob (dz 0) fun v => some (.inl v, s543)))) else (ih 1 v0 v1 v2 v3 v4 v5I 0 0 0 s366))
noncomputable def lc_9 (tb : List (List Int32)) (ih : LawF) (v0 v1 v2 v3 v4 v5I x349 x354 x355 x360 x365 x370 : Nat) (s366 : kHS) : Option (dR Nat) := bif !weq x360 0 then (ob (f_L_below (wdiv x349 5) x360) fun x560 => ob (dtag nS c_X9 s366.1 v1) fun _ => obW (f_X9_trial tb v1 x560 s366) fun x564 s565 => ob (dtag nS c_X9 s565.1 v1) fun _ => obW (f_X9_ofClaim tb v1 x560 0 s565) fun x569 s570 => ob (dtag nS c_X9 s570.1 v1) fun _ => obW (f_X9_ofClaim tb v1 x560 1 s570) fun x571 s572 => ob (dtag nS c_X9 s572.1 v1) fun _ => obW (f_X9_ofClaim tb v1 x560 2 s572) fun x573 s574 => ob (dtag nS c_X9 s574.1 v1) fun _ => obW (f_X9_against tb v1 x569 x571 x573 s574) fun x575 s576 => bif wle 0 x575 then (bif weq x564 0 then (ob (daldI tb s576.1 v4 x560) fun x577 => ob (dast nS 100 s576 v4 x560 (.int (nI (wor x577 (wshl 1 v2))))) fun s578 => ob (daldI tb s578.1 v3 x560) fun x579 => bif weq x564 0 then (ob (dast nS 100 s578 v3 x560 (.int (nI (wor x579 (wshl 1 v2))))) fun s580 => ih 1 v0 v1 v2 v3 v4 v5I 0 0 0 s580) else (ob (dast nS 100 s578 v3 x560 (.int (nI (wor x579 0)))) fun s584 => ih 1 v0 v1 v2 v3 v4 v5I 0 0 0 s584)) else (ob (dz 0) fun v => some (.inl v, s576))) else (bif weq x564 1 then (ob (daldI tb s576.1 v4 x560) fun x588 => ob (dast nS 100 s576 v4 x560 (.int (nI (wor x588 (wshl 1 v2))))) fun s589 => ob (daldI tb s589.1 v3 x560) fun x590 => bif weq x564 0 then (ob (dast nS 100 s589 v3 x560 (.int (nI (wor x590 (wshl 1 v2))))) fun s591 => ih 1 v0 v1 v2 v3 v4 v5I 0 0 0 s591) else (ob (dast nS 100 s589 v3 x560 (.int (nI (wor x590 0)))) fun s595 => ih 1 v0 v1 v2 v3 v4 v5I 0 0 0 s595)) else (ob (dz 0) fun v => some (.inl v, s576)))) else (ih 1 v0 v1 v2 v3 v4 v5I 0 0 0 s366)
noncomputable def lc_10 (tb : List (List Int32)) (ih : LawF) (v0 v1 v2 v3 v4 v5I x349 x354 x355 x360 x365 x370 : Nat) (s366 : kHS) : Option (dR Nat) := bif wle x355 0 then (ih 1 v0 v1 v2 v3 v4 v5I 0 0 0 s366) else (obW (f_L_isMap tb v1 x370 x354 s366) fun x605 s606 => bif !weq x605 0 then (ih 1 v0 v1 v2 v3 v4 v5I 0 0 0 s606) else (ob (dz 0) fun v => some (.inl v, s606)))
theorem lc_0_ok (ht : tb.length = nS) {ih : LawF} {r x y J : Nat} (hr : r < 40) (w : World s W) (k : Kp W r) (hJ : 0 < W.cs.length → J < W.cs.length) (H : LawH ih r) : LawE (lc_0 tb ih 6 (ad 0) W.n (ad 49) (ad 50) r x y W.cs.length W.ks.length W.ws.length J s) := by
  have hn5 := w.n5
  have hl := w.w6.2.2.2
  have ktr := k.2.1
  have ktl := k.2.2.1
  obtain ⟨q1, q2⟩ := below_ok (a := y) (b := 5) (by decide) (by decide)
  generalize wand (y) 2147483647 % (5) = q at q1 q2
  obtain ⟨c1, c2, hc1, hc2, s1, e1, w1⟩ := size_ok ht w (n := 1 + q) (by omega) (by omega)
  obtain ⟨s2, e2, w2⟩ := many_2 (tb := tb) w1
  obtain ⟨s3, e3, w3⟩ := many_0 (tb := tb) w2
  have e2' : f_X9_many tb (ad 0) 2 s1 = some (.inl 0, s2) := e2
  have e3' : f_X9_many tb (ad 0) 0 s2 = some (.inl (1 + q), s3) := e3
  unfold lc_0
  rw [q1, ob_s, dl_eq, wadd_s (by omega), w.tag, ob_s, e1, obW_l, weq_s (by omega) (by omega), decide_eq_true rfl, Bool.not_true, cond_false, w1.tag, ob_s, e2', obW_l, show (!weq 0 0) = false from rfl, cond_false, w2.tag, ob_s, e3', obW_l, weq_s (by omega) (by omega), decide_eq_true rfl, cond_true]
  exact H (W.sized (1 + q) c1 c2) s3 w3 (k.to (fun j hj => k.1 j hj) (Nat.le_succ _) (Nat.le_succ _) (show W.rc + c1 ≤ W.rc + 100 by omega) (show W.rl + c2 ≤ W.rl + 5000 by omega))
theorem lc_1_ok (ht : tb.length = nS) {ih : LawF} {r x y J : Nat} (hr : r < 40) (w : World s W) (k : Kp W r) (hJ : 0 < W.cs.length → J < W.cs.length) (H : LawH ih r) : LawE (lc_1 tb ih 6 (ad 0) W.n (ad 49) (ad 50) r x y W.cs.length W.ks.length W.ws.length J s) := by
  have hn5 := w.n5
  have hl := w.w6.2.2.2
  have ktr := k.2.1
  have ktl := k.2.2.1
  unfold lc_1
  by_cases hm : 8 ≤ W.cs.length
  · rw [wle_s (by decide) (by omega), decide_eq_true hm, cond_true]
    exact H W s w k.st
  · rw [wle_s (by decide) (by omega), decide_eq_false hm, cond_false]
    obtain ⟨q1, q2⟩ := below_ok (a := y) (b := 11) (by decide) (by decide)
    generalize wand (y) 2147483647 % (11) = q at q1 q2
    obtain ⟨s1, e1, w1⟩ := map_ok ht w q2 (by omega)
    have hj : W.cs.length < (W.mapped q).cs.length := by
      show W.cs.length < (W.cs ++ [([q], 0)]).length
      rw [List.length_append]
      exact Nat.lt_succ_self _
    obtain ⟨s2, e2, w2⟩ := ofMap_2 ht w1 hj
    have e0 : omv (W.mapped q) W.cs.length 2 = 1 := by
      show ((W.cs ++ [([q], 0)]).getD W.cs.length ([], 0)).1.length = 1
      rw [gd_end]
      rfl
    rw [e0] at e2
    rw [q1, ob_s, w.tag, ob_s, e1, obW_l, weq_s (by omega) (by omega), decide_eq_true rfl, Bool.not_true, cond_false, w1.tag, ob_s, e2, obW_l, show weq 1 1 = true from rfl, cond_true]
    exact H (W.mapped q) s2 w2 (k.to (fun j hj => k.1 j hj) (Nat.le_succ _) (Nat.le_succ _) (show W.rc + 2 ≤ W.rc + 100 by omega) (show W.rl + 16 ≤ W.rl + 5000 by omega))
theorem lc_2_ok (ht : tb.length = nS) {ih : LawF} {r x y J : Nat} (hr : r < 40) (w : World s W) (k : Kp W r) (hJ : 0 < W.cs.length → J < W.cs.length) (H : LawH ih r) : LawE (lc_2 tb ih 6 (ad 0) W.n (ad 49) (ad 50) r x y W.cs.length W.ks.length W.ws.length J s) := by
  have hn5 := w.n5
  have hl := w.w6.2.2.2
  have ktr := k.2.1
  have ktl := k.2.2.1
  unfold lc_2
  by_cases hm : 8 ≤ W.cs.length
  · rw [wle_s (by decide) (by omega), decide_eq_true hm, cond_true]
    exact H W s w k.st
  · rw [wle_s (by decide) (by omega), decide_eq_false hm, cond_false]
    obtain ⟨q1, q2⟩ := below_ok (a := y) (b := 11) (by decide) (by decide)
    generalize wand (y) 2147483647 % (11) = q at q1 q2
    obtain ⟨s1, e1, w1⟩ := map_ok ht w q2 (by omega)
    have hj : W.cs.length < (W.mapped q).cs.length := by
      show W.cs.length < (W.cs ++ [([q], 0)]).length
      rw [List.length_append]
      exact Nat.lt_succ_self _
    obtain ⟨s2, e2, w2⟩ := ofMap_2 ht w1 hj
    have e0 : omv (W.mapped q) W.cs.length 2 = 1 := by
      show ((W.cs ++ [([q], 0)]).getD W.cs.length ([], 0)).1.length = 1
      rw [gd_end]
      rfl
    rw [e0] at e2
    rw [q1, ob_s, w.tag, ob_s, e1, obW_l, weq_s (by omega) (by omega), decide_eq_true rfl, Bool.not_true, cond_false, w1.tag, ob_s, e2, obW_l, show weq 1 1 = true from rfl, cond_true]
    exact H (W.mapped q) s2 w2 (k.to (fun j hj => k.1 j hj) (Nat.le_succ _) (Nat.le_succ _) (show W.rc + 2 ≤ W.rc + 100 by omega) (show W.rl + 16 ≤ W.rl + 5000 by omega))
theorem lc_3_ok (ht : tb.length = nS) {ih : LawF} {r x y J : Nat} (hr : r < 40) (w : World s W) (k : Kp W r) (hJ : 0 < W.cs.length → J < W.cs.length) (H : LawH ih r) : LawE (lc_3 tb ih 6 (ad 0) W.n (ad 49) (ad 50) r x y W.cs.length W.ks.length W.ws.length J s) := by
  have hn5 := w.n5
  have hl := w.w6.2.2.2
  have ktr := k.2.1
  have ktl := k.2.2.1
  unfold lc_3
  by_cases hm : W.cs.length ≤ 0
  · rw [wle_s (by omega) (by decide), decide_eq_true hm, cond_true]
    exact H W s w k.st
  · rw [wle_s (by omega) (by decide), decide_eq_false hm, cond_false]
    have hj := hJ (by omega)
    have hlen := (w.word hj).len
    obtain ⟨s1, e1, w1⟩ := ofMap_2 ht w hj
    have e1' : f_X9_ofMap tb (ad 0) J 2 s = some (.inl (W.sg J).length, s1) := e1
    rw [w.tag, ob_s, e1', obW_l, wle_s (by decide) (by omega)]
    by_cases h6 : 6 ≤ (W.sg J).length
    · rw [decide_eq_true h6, cond_true]
      exact H W s1 w1 k.st
    · rw [decide_eq_false h6, cond_false]
      obtain ⟨s2, e2, w2⟩ := ofMap_7 ht w1 hj
      have e2' : f_X9_ofMap tb (ad 0) J 7 s1 = some (.inl (bif Nat.beq (W.cl J) 0 then 0 else 1), s2) := e2
      cases hcl : Nat.beq (W.cl J) 0 with
      | false =>
        rw [hcl, cond_false] at e2'
        rw [w1.tag, ob_s, e2', obW_l, show (!weq 1 0) = true from rfl, cond_true]
        exact H W s2 w2 k.st
      | true =>
        rw [hcl, cond_true] at e2'
        rw [w1.tag, ob_s, e2', obW_l, show (!weq 0 0) = false from rfl, cond_false]
        obtain ⟨g, wc, hcc⟩ := w2
        obtain ⟨h, c⟩ := s2
        replace wc : WC h W g := wc
        have wr := wc.row ((100, ints [0, 2, 8]) : kCel)
        have hat : (h ++ [((100, ints [0, 2, 8]) : kCel)])[h.length]? = some (100, ints [0, 2, 8]) := app_at h [] _
        obtain ⟨h', e3, wr2, hat2⟩ := ofMap_1x ht (c := (c.1 + 1, c.2 + 3)) wr (j := J) hj hat (if_neg (Nat.lt_irrefl _))
        have e3' : f_X9_ofMap tb (ad 0) J 1 (h ++ [((100, ints [0, 2, 8]) : kCel)], (c.1 + 1, c.2 + 3)) = some (.inl (tto (W.sg J)), (h', (c.1 + 1, c.2 + 3))) := e3
        have ea : dnewa nS 100 3 (h, c) = some (ad h.length, (h ++ [((100, ints [0, 0, 0]) : kCel)], (c.1 + 1, c.2 + 3))) := by
          rw [dnewa_s (by decide)]
          rfl
        have d1 : dast nS 100 (h ++ [((100, ints [0, 0, 0]) : kCel)], (c.1 + 1, c.2 + 3)) (ad h.length) 0 (.int (nI 0)) = some (h ++ [((100, ints [0, 0, 0]) : kCel)], (c.1 + 1, c.2 + 3)) := dast_app (xs := [0, 0, 0]) (by decide) (by decide)
        have d2 : dast nS 100 (h ++ [((100, ints [0, 0, 0]) : kCel)], (c.1 + 1, c.2 + 3)) (ad h.length) 1 (.int (nI 2)) = some (h ++ [((100, ints [0, 2, 0]) : kCel)], (c.1 + 1, c.2 + 3)) := dast_app (xs := [0, 0, 0]) (by decide) (by decide)
        have d3 : dast nS 100 (h ++ [((100, ints [0, 2, 0]) : kCel)], (c.1 + 1, c.2 + 3)) (ad h.length) 2 (.int (nI 8)) = some (h ++ [((100, ints [0, 2, 8]) : kCel)], (c.1 + 1, c.2 + 3)) := dast_app (xs := [0, 2, 0]) (by decide) (by decide)
        have tg : dtag nS c_X9 (h ++ [((100, ints [0, 2, 8]) : kCel)]) (ad 0) = some () := wr.tag
        have ht3 := tto_lt (W.sg J)
        have hb8 : ∀ t, t < 3 → ([0, 2, 8] : List Nat).getD t 0 ≤ 8 := by decide
        have hb9 := hb8 _ ht3
        have hrow : daldI tb h' (ad h.length) (tto (W.sg J)) = some (([0, 2, 8] : List Nat).getD (tto (W.sg J)) 0) := daldI_row ht hat2 (by omega) (getD_at (show tto (W.sg J) < 3 from ht3)) (by omega)
        have w3 : World (h', (c.1 + 1, c.2 + 3)) W.row := ⟨_, wr2, congrArg (· + 1) hcc.1, congrArg (· + 3) hcc.2⟩
        obtain ⟨b1, b2⟩ := below_ok (a := wdiv x 3) (b := 2) (by decide) (by decide)
        generalize wand (wdiv x 3) 2147483647 % (2) = b at b1 b2
        have hj3 : J < W.row.cs.length := hj
        obtain ⟨s4, e4, w4⟩ := then_ok ht w3 (j := J) (b := b) hj3 (show (W.sg J).length < 6 by omega) (Nat.eq_of_beq_eq_true hcl) b2
        have e4' : f_X9_then tb (ad 0) J (([0, 2, 8] : List Nat).getD (tto (W.sg J)) 0 + b) (h', (c.1 + 1, c.2 + 3)) = some (.inl ((W.sg J).length + 1), s4) := e4
        have hj4 : J < (W.row.thened J (nx (tto (W.row.sg J)) b)).cs.length := by
          show J < (W.cs.set J _).length
          rw [List.length_set]
          exact hj
        obtain ⟨s5, e5, w5⟩ := ofMap_2 ht w4 hj4
        have e0 : omv (W.row.thened J (nx (tto (W.row.sg J)) b)) J 2 = (W.sg J).length + 1 := by
          show ((W.cs.set J (W.sg J ++ [nx (tto (W.sg J)) b], 0)).getD J ([], 0)).1.length = (W.sg J).length + 1
          rw [gd_self hj]
          show (W.sg J ++ [nx (tto (W.sg J)) b]).length = (W.sg J).length + 1
          rw [List.length_append]
          rfl
        rw [e0] at e5
        rw [ea, ob_s]
        dsimp only
        rw [d1, ob_s, d2, ob_s, d3, ob_s]
        dsimp only
        rw [tg, ob_s, e3', obW_l]
        dsimp only
        rw [hrow, ob_s, b1, ob_s, dl_eq, wadd_s (by omega)]
        have tg2 : dtag nS c_X9 h' (ad 0) = some () := wr2.tag
        rw [tg2, ob_s, e4', obW_l, w4.tag, ob_s, e5, obW_l, weq_s (by omega) (by omega), decide_eq_true rfl, cond_true]
        exact H (W.row.thened J (nx (tto (W.row.sg J)) b)) s5 w5 (k.to (fun j hj => k.1 j hj) (Nat.le_succ _) (Nat.le_succ _) (show W.rc + 1 ≤ W.rc + 100 by omega) (show W.rl + 3 ≤ W.rl + 5000 by omega))
theorem lc_4_ok (ht : tb.length = nS) {ih : LawF} {r x y J : Nat} (hr : r < 40) (w : World s W) (k : Kp W r) (hJ : 0 < W.cs.length → J < W.cs.length) (H : LawH ih r) : LawE (lc_4 tb ih 6 (ad 0) W.n (ad 49) (ad 50) r x y W.cs.length W.ks.length W.ws.length J s) := by
  have hn5 := w.n5
  have hl := w.w6.2.2.2
  have ktr := k.2.1
  have ktl := k.2.2.1
  unfold lc_4
  by_cases hm : W.cs.length ≤ 0
  · rw [wle_s (by omega) (by decide), decide_eq_true hm, cond_true]
    exact H W s w k.st
  · rw [wle_s (by omega) (by decide), decide_eq_false hm, cond_false]
    have hj := hJ (by omega)
    have hlen := (w.word hj).len
    obtain ⟨s1, e1, w1⟩ := ofMap_2 ht w hj
    have e1' : f_X9_ofMap tb (ad 0) J 2 s = some (.inl (W.sg J).length, s1) := e1
    rw [w.tag, ob_s, e1', obW_l, wle_s (by decide) (by omega)]
    by_cases h6 : 6 ≤ (W.sg J).length
    · rw [decide_eq_true h6, cond_true]
      exact H W s1 w1 k.st
    · rw [decide_eq_false h6, cond_false]
      obtain ⟨s2, e2, w2⟩ := ofMap_7 ht w1 hj
      have e2' : f_X9_ofMap tb (ad 0) J 7 s1 = some (.inl (bif Nat.beq (W.cl J) 0 then 0 else 1), s2) := e2
      cases hcl : Nat.beq (W.cl J) 0 with
      | false =>
        rw [hcl, cond_false] at e2'
        rw [w1.tag, ob_s, e2', obW_l, show (!weq 1 0) = true from rfl, cond_true]
        exact H W s2 w2 k.st
      | true =>
        rw [hcl, cond_true] at e2'
        rw [w1.tag, ob_s, e2', obW_l, show (!weq 0 0) = false from rfl, cond_false]
        obtain ⟨g, wc, hcc⟩ := w2
        obtain ⟨h, c⟩ := s2
        replace wc : WC h W g := wc
        have wr := wc.row ((100, ints [0, 2, 8]) : kCel)
        have hat : (h ++ [((100, ints [0, 2, 8]) : kCel)])[h.length]? = some (100, ints [0, 2, 8]) := app_at h [] _
        obtain ⟨h', e3, wr2, hat2⟩ := ofMap_1x ht (c := (c.1 + 1, c.2 + 3)) wr (j := J) hj hat (if_neg (Nat.lt_irrefl _))
        have e3' : f_X9_ofMap tb (ad 0) J 1 (h ++ [((100, ints [0, 2, 8]) : kCel)], (c.1 + 1, c.2 + 3)) = some (.inl (tto (W.sg J)), (h', (c.1 + 1, c.2 + 3))) := e3
        have ea : dnewa nS 100 3 (h, c) = some (ad h.length, (h ++ [((100, ints [0, 0, 0]) : kCel)], (c.1 + 1, c.2 + 3))) := by
          rw [dnewa_s (by decide)]
          rfl
        have d1 : dast nS 100 (h ++ [((100, ints [0, 0, 0]) : kCel)], (c.1 + 1, c.2 + 3)) (ad h.length) 0 (.int (nI 0)) = some (h ++ [((100, ints [0, 0, 0]) : kCel)], (c.1 + 1, c.2 + 3)) := dast_app (xs := [0, 0, 0]) (by decide) (by decide)
        have d2 : dast nS 100 (h ++ [((100, ints [0, 0, 0]) : kCel)], (c.1 + 1, c.2 + 3)) (ad h.length) 1 (.int (nI 2)) = some (h ++ [((100, ints [0, 2, 0]) : kCel)], (c.1 + 1, c.2 + 3)) := dast_app (xs := [0, 0, 0]) (by decide) (by decide)
        have d3 : dast nS 100 (h ++ [((100, ints [0, 2, 0]) : kCel)], (c.1 + 1, c.2 + 3)) (ad h.length) 2 (.int (nI 8)) = some (h ++ [((100, ints [0, 2, 8]) : kCel)], (c.1 + 1, c.2 + 3)) := dast_app (xs := [0, 2, 0]) (by decide) (by decide)
        have tg : dtag nS c_X9 (h ++ [((100, ints [0, 2, 8]) : kCel)]) (ad 0) = some () := wr.tag
        have ht3 := tto_lt (W.sg J)
        have hb8 : ∀ t, t < 3 → ([0, 2, 8] : List Nat).getD t 0 ≤ 8 := by decide
        have hb9 := hb8 _ ht3
        have hrow : daldI tb h' (ad h.length) (tto (W.sg J)) = some (([0, 2, 8] : List Nat).getD (tto (W.sg J)) 0) := daldI_row ht hat2 (by omega) (getD_at (show tto (W.sg J) < 3 from ht3)) (by omega)
        have w3 : World (h', (c.1 + 1, c.2 + 3)) W.row := ⟨_, wr2, congrArg (· + 1) hcc.1, congrArg (· + 3) hcc.2⟩
        obtain ⟨b1, b2⟩ := below_ok (a := wdiv x 3) (b := 2) (by decide) (by decide)
        generalize wand (wdiv x 3) 2147483647 % (2) = b at b1 b2
        have hj3 : J < W.row.cs.length := hj
        obtain ⟨s4, e4, w4⟩ := then_ok ht w3 (j := J) (b := b) hj3 (show (W.sg J).length < 6 by omega) (Nat.eq_of_beq_eq_true hcl) b2
        have e4' : f_X9_then tb (ad 0) J (([0, 2, 8] : List Nat).getD (tto (W.sg J)) 0 + b) (h', (c.1 + 1, c.2 + 3)) = some (.inl ((W.sg J).length + 1), s4) := e4
        have hj4 : J < (W.row.thened J (nx (tto (W.row.sg J)) b)).cs.length := by
          show J < (W.cs.set J _).length
          rw [List.length_set]
          exact hj
        obtain ⟨s5, e5, w5⟩ := ofMap_2 ht w4 hj4
        have e0 : omv (W.row.thened J (nx (tto (W.row.sg J)) b)) J 2 = (W.sg J).length + 1 := by
          show ((W.cs.set J (W.sg J ++ [nx (tto (W.sg J)) b], 0)).getD J ([], 0)).1.length = (W.sg J).length + 1
          rw [gd_self hj]
          show (W.sg J ++ [nx (tto (W.sg J)) b]).length = (W.sg J).length + 1
          rw [List.length_append]
          rfl
        rw [e0] at e5
        rw [ea, ob_s]
        dsimp only
        rw [d1, ob_s, d2, ob_s, d3, ob_s]
        dsimp only
        rw [tg, ob_s, e3', obW_l]
        dsimp only
        rw [hrow, ob_s, b1, ob_s, dl_eq, wadd_s (by omega)]
        have tg2 : dtag nS c_X9 h' (ad 0) = some () := wr2.tag
        rw [tg2, ob_s, e4', obW_l, w4.tag, ob_s, e5, obW_l, weq_s (by omega) (by omega), decide_eq_true rfl, cond_true]
        exact H (W.row.thened J (nx (tto (W.row.sg J)) b)) s5 w5 (k.to (fun j hj => k.1 j hj) (Nat.le_succ _) (Nat.le_succ _) (show W.rc + 1 ≤ W.rc + 100 by omega) (show W.rl + 3 ≤ W.rl + 5000 by omega))
theorem lc_5_ok (ht : tb.length = nS) {ih : LawF} {r x y J : Nat} (hr : r < 40) (w : World s W) (k : Kp W r) (hJ : 0 < W.cs.length → J < W.cs.length) (H : LawH ih r) : LawE (lc_5 tb ih 6 (ad 0) W.n (ad 49) (ad 50) r x y W.cs.length W.ks.length W.ws.length J s) := by
  have hn5 := w.n5
  have hl := w.w6.2.2.2
  have ktr := k.2.1
  have ktl := k.2.2.1
  unfold lc_5
  by_cases hm : W.cs.length ≤ 0
  · rw [wle_s (by omega) (by decide), decide_eq_true hm, cond_true]
    exact H W s w k.st
  · rw [wle_s (by omega) (by decide), decide_eq_false hm, cond_false]
    have hj := hJ (by omega)
    have hlen := (w.word hj).len
    obtain ⟨s1, e1, w1⟩ := ofMap_2 ht w hj
    have e1' : f_X9_ofMap tb (ad 0) J 2 s = some (.inl (W.sg J).length, s1) := e1
    rw [w.tag, ob_s, e1', obW_l, wle_s (by decide) (by omega)]
    by_cases h6 : 6 ≤ (W.sg J).length
    · rw [decide_eq_true h6, cond_true]
      exact H W s1 w1 k.st
    · rw [decide_eq_false h6, cond_false]
      obtain ⟨s2, e2, w2⟩ := ofMap_7 ht w1 hj
      have e2' : f_X9_ofMap tb (ad 0) J 7 s1 = some (.inl (bif Nat.beq (W.cl J) 0 then 0 else 1), s2) := e2
      cases hcl : Nat.beq (W.cl J) 0 with
      | false =>
        rw [hcl, cond_false] at e2'
        rw [w1.tag, ob_s, e2', obW_l, show (!weq 1 0) = true from rfl, cond_true]
        exact H W s2 w2 k.st
      | true =>
        rw [hcl, cond_true] at e2'
        rw [w1.tag, ob_s, e2', obW_l, show (!weq 0 0) = false from rfl, cond_false]
        obtain ⟨g, wc, hcc⟩ := w2
        obtain ⟨h, c⟩ := s2
        replace wc : WC h W g := wc
        have wr := wc.row ((100, ints [0, 2, 8]) : kCel)
        have hat : (h ++ [((100, ints [0, 2, 8]) : kCel)])[h.length]? = some (100, ints [0, 2, 8]) := app_at h [] _
        obtain ⟨h', e3, wr2, hat2⟩ := ofMap_1x ht (c := (c.1 + 1, c.2 + 3)) wr (j := J) hj hat (if_neg (Nat.lt_irrefl _))
        have e3' : f_X9_ofMap tb (ad 0) J 1 (h ++ [((100, ints [0, 2, 8]) : kCel)], (c.1 + 1, c.2 + 3)) = some (.inl (tto (W.sg J)), (h', (c.1 + 1, c.2 + 3))) := e3
        have ea : dnewa nS 100 3 (h, c) = some (ad h.length, (h ++ [((100, ints [0, 0, 0]) : kCel)], (c.1 + 1, c.2 + 3))) := by
          rw [dnewa_s (by decide)]
          rfl
        have d1 : dast nS 100 (h ++ [((100, ints [0, 0, 0]) : kCel)], (c.1 + 1, c.2 + 3)) (ad h.length) 0 (.int (nI 0)) = some (h ++ [((100, ints [0, 0, 0]) : kCel)], (c.1 + 1, c.2 + 3)) := dast_app (xs := [0, 0, 0]) (by decide) (by decide)
        have d2 : dast nS 100 (h ++ [((100, ints [0, 0, 0]) : kCel)], (c.1 + 1, c.2 + 3)) (ad h.length) 1 (.int (nI 2)) = some (h ++ [((100, ints [0, 2, 0]) : kCel)], (c.1 + 1, c.2 + 3)) := dast_app (xs := [0, 0, 0]) (by decide) (by decide)
        have d3 : dast nS 100 (h ++ [((100, ints [0, 2, 0]) : kCel)], (c.1 + 1, c.2 + 3)) (ad h.length) 2 (.int (nI 8)) = some (h ++ [((100, ints [0, 2, 8]) : kCel)], (c.1 + 1, c.2 + 3)) := dast_app (xs := [0, 2, 0]) (by decide) (by decide)
        have tg : dtag nS c_X9 (h ++ [((100, ints [0, 2, 8]) : kCel)]) (ad 0) = some () := wr.tag
        have ht3 := tto_lt (W.sg J)
        have hb8 : ∀ t, t < 3 → ([0, 2, 8] : List Nat).getD t 0 ≤ 8 := by decide
        have hb9 := hb8 _ ht3
        have hrow : daldI tb h' (ad h.length) (tto (W.sg J)) = some (([0, 2, 8] : List Nat).getD (tto (W.sg J)) 0) := daldI_row ht hat2 (by omega) (getD_at (show tto (W.sg J) < 3 from ht3)) (by omega)
        have w3 : World (h', (c.1 + 1, c.2 + 3)) W.row := ⟨_, wr2, congrArg (· + 1) hcc.1, congrArg (· + 3) hcc.2⟩
        obtain ⟨b1, b2⟩ := below_ok (a := wdiv x 3) (b := 2) (by decide) (by decide)
        generalize wand (wdiv x 3) 2147483647 % (2) = b at b1 b2
        have hj3 : J < W.row.cs.length := hj
        obtain ⟨s4, e4, w4⟩ := then_ok ht w3 (j := J) (b := b) hj3 (show (W.sg J).length < 6 by omega) (Nat.eq_of_beq_eq_true hcl) b2
        have e4' : f_X9_then tb (ad 0) J (([0, 2, 8] : List Nat).getD (tto (W.sg J)) 0 + b) (h', (c.1 + 1, c.2 + 3)) = some (.inl ((W.sg J).length + 1), s4) := e4
        have hj4 : J < (W.row.thened J (nx (tto (W.row.sg J)) b)).cs.length := by
          show J < (W.cs.set J _).length
          rw [List.length_set]
          exact hj
        obtain ⟨s5, e5, w5⟩ := ofMap_2 ht w4 hj4
        have e0 : omv (W.row.thened J (nx (tto (W.row.sg J)) b)) J 2 = (W.sg J).length + 1 := by
          show ((W.cs.set J (W.sg J ++ [nx (tto (W.sg J)) b], 0)).getD J ([], 0)).1.length = (W.sg J).length + 1
          rw [gd_self hj]
          show (W.sg J ++ [nx (tto (W.sg J)) b]).length = (W.sg J).length + 1
          rw [List.length_append]
          rfl
        rw [e0] at e5
        rw [ea, ob_s]
        dsimp only
        rw [d1, ob_s, d2, ob_s, d3, ob_s]
        dsimp only
        rw [tg, ob_s, e3', obW_l]
        dsimp only
        rw [hrow, ob_s, b1, ob_s, dl_eq, wadd_s (by omega)]
        have tg2 : dtag nS c_X9 h' (ad 0) = some () := wr2.tag
        rw [tg2, ob_s, e4', obW_l, w4.tag, ob_s, e5, obW_l, weq_s (by omega) (by omega), decide_eq_true rfl, cond_true]
        exact H (W.row.thened J (nx (tto (W.row.sg J)) b)) s5 w5 (k.to (fun j hj => k.1 j hj) (Nat.le_succ _) (Nat.le_succ _) (show W.rc + 1 ≤ W.rc + 100 by omega) (show W.rl + 3 ≤ W.rl + 5000 by omega))
theorem lc_6_ok (ht : tb.length = nS) {ih : LawF} {r x y J : Nat} (hr : r < 40) (w : World s W) (k : Kp W r) (hJ : 0 < W.cs.length → J < W.cs.length) (H : LawH ih r) : LawE (lc_6 tb ih 6 (ad 0) W.n (ad 49) (ad 50) r x y W.cs.length W.ks.length W.ws.length J s) := by
  have hn5 := w.n5
  have hl := w.w6.2.2.2
  have ktr := k.2.1
  have ktl := k.2.2.1
  unfold lc_6
  by_cases hm : 4 ≤ W.ws.length
  · rw [wle_s (by decide) (by omega), decide_eq_true hm, cond_true]
    exact H W s w k.st
  · rw [wle_s (by decide) (by omega), decide_eq_false hm, cond_false]
    obtain ⟨f1, f2⟩ := below_ok (a := wdiv x 3) (b := 3) (by decide) (by decide)
    generalize wand (wdiv x 3) 2147483647 % (3) = f at f1 f2
    have hc := cnt_720 hn5.1 hn5.2 f2
    obtain ⟨s1, e1, w1⟩ := objects_ok ht w f2
    obtain ⟨q1, q2⟩ := below_ok (a := y) (b := cnt W.n f) hc.2 (show cnt W.n f < 2147483648 by omega)
    generalize wand (y) 2147483647 % (cnt W.n f) = q at q1 q2
    obtain ⟨s2, e2, w2⟩ := unrank_ok ht w1 f2 q2
    obtain ⟨s3, e3, w3⟩ := walker_ok ht w2 f2 q2 (by omega)
    rw [f1, ob_s, ob_s, ob_s, w.tag, ob_s, e1, obW_l, q1, ob_s, w1.tag, ob_s, e2, obW_l, w2.tag, ob_s, e3, obW_l, weq_s (by omega) (by omega), decide_eq_true rfl, cond_true]
    exact H (W.walked f q) s3 w3 (k.to (fun j hj => k.1 j hj) (Nat.le_succ _) (Nat.le_succ _) (show W.rc + 1 ≤ W.rc + 100 by omega) (show W.rl + 6 ≤ W.rl + 5000 by omega))
theorem lc_7_ok (ht : tb.length = nS) {ih : LawF} {r x y J : Nat} (hr : r < 40) (w : World s W) (k : Kp W r) (hJ : 0 < W.cs.length → J < W.cs.length) (H : LawH ih r) : LawE (lc_7 tb ih 6 (ad 0) W.n (ad 49) (ad 50) r x y W.cs.length W.ks.length W.ws.length J s) := by
  have hn5 := w.n5
  have hl := w.w6.2.2.2
  have ktr := k.2.1
  have ktl := k.2.2.1
  unfold lc_7
  by_cases hm : W.ws.length ≤ 0
  · rw [wle_s (by omega) (by decide), decide_eq_true hm, cond_true]
    exact H W s w k.st
  · rw [wle_s (by omega) (by decide), decide_eq_false hm, cond_false]
    by_cases hm2 : W.cs.length ≤ 0
    · rw [wle_s (by omega) (by decide), decide_eq_true hm2, cond_true]
      exact H W s w k.st
    · rw [wle_s (by omega) (by decide), decide_eq_false hm2, cond_false]
      obtain ⟨i1, i2⟩ := below_ok (a := wdiv x 5) (b := W.ws.length) (by omega) (by omega)
      generalize wand (wdiv x 5) 2147483647 % (W.ws.length) = i at i1 i2
      obtain ⟨W2, hW2, s1, e1, w1⟩ := isSent_ok ht i2 (hJ (by omega)) (by omega) s w
      rw [i1, ob_s, e1, obW_l, show (!weq 1 0) = true from rfl, cond_true]
      rcases hW2 with h1 | h1
      · rw [h1] at w1
        exact H W s1 w1 k.st
      · rw [h1] at w1
        exact H (W.sent i (tto (W.sg J)) (thr W.n (W.sg J) (W.wk i).k)) s1 w1 (k.to (fun j hj => k.1 j hj) (Nat.le_refl _) (Nat.le_succ _) (show W.rc ≤ W.rc + 100 by omega) (show W.rl ≤ W.rl + 5000 by omega))
theorem Kc_new {td rf : List Nat} {l : List Kl} {z : Kl} {W' : Wd} {v u : Nat} (k : Kc W) (h1 : W'.ks = (W.ks ++ [z]).set W.ks.length (Kl.mk z.m z.w z.o v u)) (h2 : W'.td = W.td.set W.ks.length v) (h3 : W'.rf = W.rf.set W.ks.length u) (h4 : W.td.length = 8) (h5 : W.rf.length = 8) (h8 : W.ks.length < 8) : Kc W' := by
  intro j hj
  rw [h1, List.length_set, List.length_append] at hj
  show W'.td.getD j 0 = (W'.ks.getD j kl0).t ∧ W'.rf.getD j 0 = (W'.ks.getD j kl0).r
  rw [h1, h2, h3]
  by_cases e : j = W.ks.length
  · subst e
    rw [gd_self (l := W.td) (by omega), gd_self (l := W.rf) (by omega), gd_self (l := W.ks ++ [z]) (by rw [List.length_append]; exact Nat.lt_succ_self _)]
    exact ⟨rfl, rfl⟩
  · have hj2 : j < W.ks.length := by have : j < W.ks.length + 1 := hj; omega
    rw [gd_ne (l := W.td) e, gd_ne (l := W.rf) e, gd_ne (l := W.ks ++ [z]) e, gd_lt hj2]
    exact k j hj2
theorem Kc_old {W' : Wd} {z : Kl} {i v u : Nat} (k : Kc W) (h1 : W'.ks = W.ks.set i (Kl.mk z.m z.w z.o v u)) (h2 : W'.td = W.td.set i v) (h3 : W'.rf = W.rf.set i u) (h4 : W.td.length = 8) (h5 : W.rf.length = 8) (h8 : i < W.ks.length) (h9 : W.ks.length ≤ 8) : Kc W' := by
  intro j hj
  rw [h1, List.length_set] at hj
  show W'.td.getD j 0 = (W'.ks.getD j kl0).t ∧ W'.rf.getD j 0 = (W'.ks.getD j kl0).r
  rw [h1, h2, h3]
  by_cases e : j = i
  · subst e
    rw [gd_self (l := W.td) (by omega), gd_self (l := W.rf) (by omega), gd_self (l := W.ks) h8]
    exact ⟨rfl, rfl⟩
  · rw [gd_ne e, gd_ne e, gd_ne e]
    exact k j hj
theorem lc_8_ok (ht : tb.length = nS) {ih : LawF} {r x y J : Nat} (hr : r < 40) (w : World s W) (k : Kp W r) (hJ : 0 < W.cs.length → J < W.cs.length) (H : LawH ih r) : LawE (lc_8 tb ih 6 (ad 0) W.n (ad 49) (ad 50) r x y W.cs.length W.ks.length W.ws.length J s) := by
  have hn5 := w.n5
  have hl := w.w6.2.2.2
  have ktr := k.2.1
  have ktl := k.2.2.1
  have hrw := w.rows
  have hsh := shl_lt hn5.1 hn5.2
  unfold lc_8
  by_cases hm : W.ks.length = 8
  · rw [weq_s (by omega) (by decide), decide_eq_true hm, cond_true]
    exact H W s w k.st
  · rw [weq_s (by omega) (by decide), decide_eq_false hm, cond_false]
    by_cases hm2 : W.cs.length = 0
    · rw [weq_s (by omega) (by decide), decide_eq_true hm2, Bool.not_true, cond_false]
      exact H W s w k.st
    · rw [weq_s (by omega) (by decide), decide_eq_false hm2, Bool.not_false, cond_true]
      have hj := hJ (by omega)
      obtain ⟨a1, a2⟩ := below_ok (a := wdiv x 3) (b := 4) (by decide) (by decide)
      generalize wand (wdiv x 3) 2147483647 % (4) = a at a1 a2
      obtain ⟨b1, b2⟩ := below_ok (a := wdiv x 5) (b := 4) (by decide) (by decide)
      generalize wand (wdiv x 5) 2147483647 % (4) = b at b1 b2
      obtain ⟨s1, e1, w1⟩ := claim_ok ht w hj a2 b2 (by omega) (by omega)
      have hj1 : J < ((W.claimd J a b).tried W.ks.length).cs.length := by
        show J < (W.cs.set J (W.sg J, 1)).length
        rw [List.length_set]
        exact hj
      have hsg : ∀ (Z : Wd), Z.cs = W.cs.set J (W.sg J, 1) → Z.sg J = W.sg J ∧ Z.cl J = 1 := fun Z hz => by
        unfold Wd.sg Wd.cl
        rw [hz, gd_self hj]
        exact ⟨rfl, rfl⟩
      obtain ⟨s2, e2, w2⟩ := ofMap_7 ht w1 hj1
      have e0 : omv ((W.claimd J a b).tried W.ks.length) J 7 = 1 := by
        show (bif Nat.beq (((W.claimd J a b).tried W.ks.length).cl J) 0 then 0 else 1) = 1
        rw [(hsg _ rfl).2]
        rfl
      rw [e0] at e2
      obtain ⟨s3, e3, w3⟩ := setTd_ok w2 (j := W.ks.length) (v := wshl 1 W.n) (by omega) (by omega)
      obtain ⟨s4, e4, w4⟩ := against_ok ht w3 (j := J) hj1 a2 b2
      have e4' : f_X9_against tb (ad 0) J a b s3 = some (.inl (agn W.n (W.sg J) a b), s4) := by
        rw [e4, (hsg (((W.claimd J a b).tried W.ks.length).setTd (((W.claimd J a b).tried W.ks.length).td.set W.ks.length (wshl 1 W.n))) rfl).1]
        rfl
      rw [a1, ob_s, b1, ob_s, w.tag, ob_s, e1, obW_l, weq_s (by omega) (by omega), decide_eq_true rfl, Bool.not_true, cond_false, w1.tag, ob_s, e2, obW_l, show weq 1 1 = true from rfl, cond_true, e3, ob_s, ob_s, ob_s, w3.tag, ob_s, e4', obW_l]
      have fin : ∀ u, (u = bif Nat.beq (agn W.n (W.sg J) a b) 4294967295 then 0 else wshl 1 W.n) → LawE (ob (dast nS 100 s4 (ad 49) W.ks.length (.int (nI u))) fun s => ih 1 6 (ad 0) W.n (ad 49) (ad 50) r 0 0 0 s) := by
        intro u hu
        have hu9 : u < 4294967296 := by
          rw [hu]
          cases Nat.beq (agn W.n (W.sg J) a b) 4294967295 with
          | true => exact (by decide : 0 < 4294967296)
          | false => exact (by omega : wshl 1 W.n < 4294967296)
        obtain ⟨s5, e5, w5⟩ := setRf_ok w4 (j := W.ks.length) (v := u) (by omega) hu9
        rw [e5, ob_s]
        refine H ((((W.claimd J a b).tried W.ks.length).setTd (((W.claimd J a b).tried W.ks.length).td.set W.ks.length (wshl 1 W.n))).setRf ((((W.claimd J a b).tried W.ks.length).setTd (((W.claimd J a b).tried W.ks.length).td.set W.ks.length (wshl 1 W.n))).rf.set W.ks.length u)) s5 w5 (k.to (Kc_new (td := []) (rf := []) (l := []) (z := Kl.mk J a b 0 0) (v := wshl 1 W.n) (u := u) k.1 ?_ rfl rfl hrw.2.2.2.1 hrw.2.2.1 (by omega)) (Nat.le_succ _) (Nat.le_refl _) (show W.rc + 1 ≤ W.rc + 100 by omega) (show W.rl + 5 ≤ W.rl + 5000 by omega))
        show (W.ks ++ [Kl.mk J a b 0 0]).set W.ks.length (Kl.mk ((W.claimd J a b).kl W.ks.length).m ((W.claimd J a b).kl W.ks.length).w ((W.claimd J a b).kl W.ks.length).o (wor ((W.claimd J a b).kl W.ks.length).t (wshl 1 W.n)) (bif Nat.beq (agn W.n ((W.claimd J a b).sg ((W.claimd J a b).kl W.ks.length).m) ((W.claimd J a b).kl W.ks.length).w ((W.claimd J a b).kl W.ks.length).o) 4294967295 then ((W.claimd J a b).kl W.ks.length).r else wor ((W.claimd J a b).kl W.ks.length).r (wshl 1 W.n))) = _
        rw [Wd.claimd_kl]
        show (W.ks ++ [Kl.mk J a b 0 0]).set W.ks.length (Kl.mk J a b (wor 0 (wshl 1 W.n)) (bif Nat.beq (agn W.n ((W.claimd J a b).sg J) a b) 4294967295 then 0 else wor 0 (wshl 1 W.n))) = _
        rw [(hsg (W.claimd J a b) rfl).1, lor_0, ← hu]
      have h9 := (cnt_720 hn5.1 hn5.2 (frm_lt (W.sg J))).1
      rcases agn_ok (σ := W.sg J) hn5.1 hn5.2 a b with ⟨h1, -⟩ | ⟨h1, -⟩
      · have hz := fin 0 (by rw [h1]; rfl)
        rw [h1, show wle 0 4294967295 = false from rfl, cond_false]
        exact hz
      · have hne : Nat.beq (agn W.n (W.sg J) a b) 4294967295 = false := by
          cases hb : Nat.beq (agn W.n (W.sg J) a b) 4294967295 with
          | false => rfl
          | true => have := Nat.eq_of_beq_eq_true hb; omega
        have hz := fin (wshl 1 W.n) (by rw [hne]; rfl)
        rw [wle_s (by decide) (by omega), decide_eq_true (Nat.zero_le _), cond_true]
        exact hz
theorem lc_9_ok (ht : tb.length = nS) {ih : LawF} {r x y J : Nat} (hr : r < 40) (w : World s W) (k : Kp W r) (hJ : 0 < W.cs.length → J < W.cs.length) (H : LawH ih r) : LawE (lc_9 tb ih 6 (ad 0) W.n (ad 49) (ad 50) r x y W.cs.length W.ks.length W.ws.length J s) := by
  have hn5 := w.n5
  have hl := w.w6.2.2.2
  have ktr := k.2.1
  have ktl := k.2.2.1
  have hrw := w.rows
  have hsh := shl_lt hn5.1 hn5.2
  unfold lc_9
  by_cases hm : W.ks.length = 0
  · rw [weq_s (by omega) (by decide), decide_eq_true hm, Bool.not_true, cond_false]
    exact H W s w k.st
  · rw [weq_s (by omega) (by decide), decide_eq_false hm, Bool.not_false, cond_true]
    obtain ⟨i1, i2⟩ := below_ok (a := wdiv x 5) (b := W.ks.length) (by omega) (by omega)
    generalize wand (wdiv x 5) 2147483647 % (W.ks.length) = i at i1 i2
    obtain ⟨m1, m2, m3, m4, m5⟩ := w.kl i2
    obtain ⟨k1, k2⟩ := k.1 i i2
    obtain ⟨s1, e1, w1⟩ := trial_ok ht w i2 (by omega)
    have hi1 : i < (W.tried i).ks.length := by
      show i < (W.ks.set i _).length
      rw [List.length_set]
      exact i2
    have hkl : (W.tried i).kl i = Kl.mk (W.kl i).m (W.kl i).w (W.kl i).o (wor (W.kl i).t (wshl 1 W.n)) (bif Nat.beq (agn W.n (W.sg (W.kl i).m) (W.kl i).w (W.kl i).o) 4294967295 then (W.kl i).r else wor (W.kl i).r (wshl 1 W.n)) := gd_self i2
    obtain ⟨s2, e2, w2⟩ := ofClaim_0 ht w1 hi1
    obtain ⟨s3, e3, w3⟩ := ofClaim_1 ht w2 hi1
    obtain ⟨s4, e4, w4⟩ := ofClaim_2 ht w3 hi1
    rw [hkl] at e2 e3 e4
    have e2' : f_X9_ofClaim tb (ad 0) i 0 s1 = some (.inl (W.kl i).m, s2) := e2
    have e3' : f_X9_ofClaim tb (ad 0) i 1 s2 = some (.inl (W.kl i).w, s3) := e3
    have e4' : f_X9_ofClaim tb (ad 0) i 2 s3 = some (.inl (W.kl i).o, s4) := e4
    obtain ⟨s5, e5, w5⟩ := against_ok ht w4 (j := (W.kl i).m) m1 m2 m3
    have e5' : f_X9_against tb (ad 0) (W.kl i).m (W.kl i).w (W.kl i).o s4 = some (.inl (agn W.n (W.sg (W.kl i).m) (W.kl i).w (W.kl i).o), s5) := e5
    have hv9 := wor_lt m4 hsh
    have hu9 := wor_lt m5 hsh
    obtain ⟨s6, e6, w6⟩ := setTd_ok w5 (j := i) (v := wor (W.kl i).t (wshl 1 W.n)) (by omega) (by omega)
    have g5 : daldI tb s5.1 (ad 50) i = some (W.kl i).t := by
      rw [getTd_ok ht w5 (by omega)]
      exact congrArg some k1
    have g6 : daldI tb s6.1 (ad 49) i = some (W.kl i).r := by
      rw [getRf_ok ht w6 (by omega)]
      exact congrArg some k2
    have fin : ∀ u, u < 64 → (u = bif Nat.beq (agn W.n (W.sg (W.kl i).m) (W.kl i).w (W.kl i).o) 4294967295 then (W.kl i).r else wor (W.kl i).r (wshl 1 W.n)) → LawE (ob (dast nS 100 s6 (ad 49) i (.int (nI u))) fun s => ih 1 6 (ad 0) W.n (ad 49) (ad 50) r 0 0 0 s) := by
      intro u hu9 hu
      obtain ⟨s7, e7, w7⟩ := setRf_ok w6 (j := i) (v := u) (by omega) (by omega)
      rw [e7, ob_s]
      refine H (((W.tried i).setTd ((W.tried i).td.set i (wor (W.kl i).t (wshl 1 W.n)))).setRf (((W.tried i).setTd ((W.tried i).td.set i (wor (W.kl i).t (wshl 1 W.n)))).rf.set i u)) s7 w7 (k.to (Kc_old (z := W.kl i) (i := i) (v := wor (W.kl i).t (wshl 1 W.n)) (u := u) k.1 ?_ rfl rfl hrw.2.2.2.1 hrw.2.2.1 i2 (by omega)) (Nat.le_succ _) (Nat.le_refl _) (show W.rc ≤ W.rc + 100 by omega) (show W.rl ≤ W.rl + 5000 by omega))
      rw [hu]
      rfl
    have h9 := (cnt_720 hn5.1 hn5.2 (frm_lt (W.sg (W.kl i).m))).1
    rcases agn_ok (σ := W.sg (W.kl i).m) hn5.1 hn5.2 (W.kl i).w (W.kl i).o with ⟨h1, -⟩ | ⟨h1, -⟩
    · have hz := fin (W.kl i).r m5 (by rw [h1]; rfl)
      rw [h1] at e1 e5'
      rw [i1, ob_s, w.tag, ob_s, e1, obW_l, w1.tag, ob_s, e2', obW_l, w2.tag, ob_s, e3', obW_l, w3.tag, ob_s, e4', obW_l, w4.tag, ob_s, e5', obW_l, show wle 0 4294967295 = false from rfl, cond_false, show Nat.beq 4294967295 4294967295 = true from rfl, cond_true, show weq 1 1 = true from rfl, cond_true, g5, ob_s, e6, ob_s, g6, ob_s, show weq 1 0 = false from rfl, cond_false, lor_z]
      exact hz
    · have hne : Nat.beq (agn W.n (W.sg (W.kl i).m) (W.kl i).w (W.kl i).o) 4294967295 = false := by
        cases hb : Nat.beq (agn W.n (W.sg (W.kl i).m) (W.kl i).w (W.kl i).o) 4294967295 with
        | false => rfl
        | true => have := Nat.eq_of_beq_eq_true hb; omega
      have hz := fin (wor (W.kl i).r (wshl 1 W.n)) hu9 (by rw [hne]; rfl)
      rw [hne, cond_false] at e1
      rw [i1, ob_s, w.tag, ob_s, e1, obW_l, w1.tag, ob_s, e2', obW_l, w2.tag, ob_s, e3', obW_l, w3.tag, ob_s, e4', obW_l, w4.tag, ob_s, e5', obW_l, wle_s (by decide) (by omega), decide_eq_true (Nat.zero_le _), cond_true, show weq 0 0 = true from rfl, cond_true, g5, ob_s, e6, ob_s, g6, ob_s, cond_true]
      exact hz
theorem lc_10_ok (ht : tb.length = nS) {ih : LawF} {r x y J : Nat} (hr : r < 40) (w : World s W) (k : Kp W r) (hJ : 0 < W.cs.length → J < W.cs.length) (H : LawH ih r) : LawE (lc_10 tb ih 6 (ad 0) W.n (ad 49) (ad 50) r x y W.cs.length W.ks.length W.ws.length J s) := by
  have hn5 := w.n5
  have hl := w.w6.2.2.2
  have ktr := k.2.1
  have ktl := k.2.2.1
  unfold lc_10
  by_cases hm : W.cs.length ≤ 0
  · rw [wle_s (by omega) (by decide), decide_eq_true hm, cond_true]
    exact H W s w k.st
  · rw [wle_s (by omega) (by decide), decide_eq_false hm, cond_false]
    obtain ⟨s1, e1, w1⟩ := isMap_ok ht (y := y) (hJ (by omega)) s w
    rw [e1, obW_l, show (!weq 1 0) = true from rfl, cond_true]
    exact H W s1 w1 k.st
theorem law_0 (ht : tb.length = nS) {ih : LawF} {r : Nat} (hx : ∀ h k, k < 100 → ∃ v, f_L_cell tb h 6 k = some v) (hr : r < 40) (w : World s W) (k : Kp W r) (H : LawH ih r) : LawE (lb0_L_law tb ih 6 (ad 0) W.n (ad 49) (ad 50) r 0 0 0 s) := by
  have hl := w.w6.2.2.2
  obtain ⟨a, ha⟩ := hx s.1 (wrem r 16) (rnd_k r hr).1
  obtain ⟨b, hb⟩ := hx s.1 (wrem (wadd (wmul 7 r) 3) 16) (rnd_k r hr).2
  obtain ⟨s1, e1, w1⟩ := many_1 (tb := tb) w
  obtain ⟨s2, e2, w2⟩ := many_3 (tb := tb) w1
  obtain ⟨s3, e3, w3⟩ := many_2 (tb := tb) w2
  unfold lb0_L_law
  rw [wle_s (by decide) (by omega), decide_eq_false (by omega), cond_false, ha, ob_s, dl_eq, hb, ob_s, dl_eq, w.tag, ob_s, e1, obW_l, w1.tag, ob_s, e2, obW_l, w2.tag, ob_s, e3, obW_l]
  generalize wadd a (wmul 31 r) = x
  generalize wadd b (wmul 5 r) = y
  obtain ⟨x1, x2, x3⟩ := wmax1 W.cs.length (by omega)
  obtain ⟨j1, j2⟩ := below_ok (a := y) (b := wmax 1 W.cs.length) x1 x2
  generalize wand y 2147483647 % wmax 1 W.cs.length = J at j1 j2
  have hJ : 0 < W.cs.length → J < W.cs.length := fun h => by
    rw [x3 h] at j2
    exact j2
  obtain ⟨c1, c2⟩ := below_ok (a := x) (b := 11) (by decide) (by decide)
  generalize wand x 2147483647 % 11 = c at c1 c2
  rw [j1, ob_s, c1, ob_s]
  rcases (show c = 0 ∨ c = 1 ∨ c = 2 ∨ c = 3 ∨ c = 4 ∨ c = 5 ∨ c = 6 ∨ c = 7 ∨ c = 8 ∨ c = 9 ∨ c = 10 by omega) with rfl | rfl | rfl | rfl | rfl | rfl | rfl | rfl | rfl | rfl | rfl
  · rw [show weq 0 0 = true from rfl, cond_true]
    exact lc_0_ok (x := x) (y := y) ht hr w3 k hJ H
  · rw [show weq 1 0 = false from rfl, cond_false, show weq 1 1 = true from rfl, cond_true]
    exact lc_1_ok (x := x) (y := y) ht hr w3 k hJ H
  · rw [show weq 2 0 = false from rfl, cond_false, show weq 2 1 = false from rfl, cond_false, show weq 2 2 = true from rfl, cond_true]
    exact lc_2_ok (x := x) (y := y) ht hr w3 k hJ H
  · rw [show weq 3 0 = false from rfl, cond_false, show weq 3 1 = false from rfl, cond_false, show weq 3 2 = false from rfl, cond_false, show weq 3 3 = true from rfl, cond_true]
    exact lc_3_ok (x := x) (y := y) ht hr w3 k hJ H
  · rw [show weq 4 0 = false from rfl, cond_false, show weq 4 1 = false from rfl, cond_false, show weq 4 2 = false from rfl, cond_false, show weq 4 3 = false from rfl, cond_false, show weq 4 4 = true from rfl, cond_true]
    exact lc_4_ok (x := x) (y := y) ht hr w3 k hJ H
  · rw [show weq 5 0 = false from rfl, cond_false, show weq 5 1 = false from rfl, cond_false, show weq 5 2 = false from rfl, cond_false, show weq 5 3 = false from rfl, cond_false, show weq 5 4 = false from rfl, cond_false, show weq 5 5 = true from rfl, cond_true]
    exact lc_5_ok (x := x) (y := y) ht hr w3 k hJ H
  · rw [show weq 6 0 = false from rfl, cond_false, show weq 6 1 = false from rfl, cond_false, show weq 6 2 = false from rfl, cond_false, show weq 6 3 = false from rfl, cond_false, show weq 6 4 = false from rfl, cond_false, show weq 6 5 = false from rfl, cond_false, show weq 6 6 = true from rfl, cond_true]
    exact lc_6_ok (x := x) (y := y) ht hr w3 k hJ H
  · rw [show weq 7 0 = false from rfl, cond_false, show weq 7 1 = false from rfl, cond_false, show weq 7 2 = false from rfl, cond_false, show weq 7 3 = false from rfl, cond_false, show weq 7 4 = false from rfl, cond_false, show weq 7 5 = false from rfl, cond_false, show weq 7 6 = false from rfl, cond_false, show weq 7 7 = true from rfl, cond_true]
    exact lc_7_ok (x := x) (y := y) ht hr w3 k hJ H
  · rw [show weq 8 0 = false from rfl, cond_false, show weq 8 1 = false from rfl, cond_false, show weq 8 2 = false from rfl, cond_false, show weq 8 3 = false from rfl, cond_false, show weq 8 4 = false from rfl, cond_false, show weq 8 5 = false from rfl, cond_false, show weq 8 6 = false from rfl, cond_false, show weq 8 7 = false from rfl, cond_false, show weq 8 8 = true from rfl, cond_true]
    exact lc_8_ok (x := x) (y := y) ht hr w3 k hJ H
  · rw [show weq 9 0 = false from rfl, cond_false, show weq 9 1 = false from rfl, cond_false, show weq 9 2 = false from rfl, cond_false, show weq 9 3 = false from rfl, cond_false, show weq 9 4 = false from rfl, cond_false, show weq 9 5 = false from rfl, cond_false, show weq 9 6 = false from rfl, cond_false, show weq 9 7 = false from rfl, cond_false, show weq 9 8 = false from rfl, cond_false, show weq 9 9 = true from rfl, cond_true]
    exact lc_9_ok (x := x) (y := y) ht hr w3 k hJ H
  · rw [show weq 10 0 = false from rfl, cond_false, show weq 10 1 = false from rfl, cond_false, show weq 10 2 = false from rfl, cond_false, show weq 10 3 = false from rfl, cond_false, show weq 10 4 = false from rfl, cond_false, show weq 10 5 = false from rfl, cond_false, show weq 10 6 = false from rfl, cond_false, show weq 10 7 = false from rfl, cond_false, show weq 10 8 = false from rfl, cond_false, show weq 10 9 = false from rfl, cond_false]
    exact lc_10_ok (x := x) (y := y) ht hr w3 k hJ H
end LX
