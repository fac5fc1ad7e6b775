/-! ===== the digest hangs on the house alone ===== -/
def Det (F : kHS → Option (dR Nat)) (W : Wd) : Prop := ∃ v, ∀ hs, World hs W → Ans (F hs) v W
section DT
variable {tb : List (List Int32)} {W : Wd}
theorem Det.bind {F : kHS → Option (dR Nat)} {K : Nat → kHS → Option (dR Nat)} (a : Det F W) (b : ∀ v, Det (K v) W) : Det (fun hs => obW (F hs) K) W := by
  obtain ⟨v, hF⟩ := a
  obtain ⟨u, hK⟩ := b v
  refine ⟨u, fun hs w => ?_⟩
  obtain ⟨s, e, x⟩ := hF hs w
  obtain ⟨s2, e2, x2⟩ := hK s x
  exact ⟨s2, by dsimp only; rw [e]; exact e2, x2⟩
theorem Det.tag {F : kHS → Option (dR Nat)} (a : Det F W) : Det (fun hs => ob (dtag nS c_X9 hs.1 (ad 0)) fun _ => F hs) W := by
  obtain ⟨v, hF⟩ := a
  refine ⟨v, fun hs w => ?_⟩
  dsimp only
  rw [w.tag, ob_s]
  exact hF hs w
theorem World.mono2 {s s' : kHS} (w : World s W) (x : World s' W) : s.2.1 ≤ s'.2.1 ∧ s.2.2 ≤ s'.2.2 := by
  obtain ⟨_, _, a, b⟩ := w
  obtain ⟨_, _, a', b'⟩ := x
  omega
theorem Det.chk {F : kHS → Option (dR Nat)} (a : Det F W) : Det (fun hs => dchk hs (F hs)) W := by
  obtain ⟨v, hF⟩ := a
  refine ⟨v, fun hs w => ?_⟩
  obtain ⟨s, e, x⟩ := hF hs w
  exact ⟨s, by dsimp only; rw [e]; exact dchk_eq (w.mono2 x).1 (w.mono2 x).2, x⟩
theorem Det.ret (v : Nat) : Det (fun hs => some (.inl v, hs)) W := ⟨v, fun hs w => ⟨hs, rfl, w⟩⟩
theorem Det.of {F : kHS → Option (dR Nat)} {v : Nat} (a : ∀ hs, World hs W → Ans (F hs) v W) : Det F W := ⟨v, a⟩
theorem World.w6 {hs : kHS} (w : World hs W) : dgI nS c_X9 6 hs.1 (ad 0) = some W.cs.length ∧ dgI nS c_X9 7 hs.1 (ad 0) = some W.ws.length ∧ dgI nS c_X9 8 hs.1 (ad 0) = some W.ks.length ∧ W.cs.length ≤ 8 ∧ W.ws.length ≤ 4 ∧ W.ks.length ≤ 8 := by
  obtain ⟨g, wc, _⟩ := w
  exact ⟨wc.g6, wc.g7, wc.g8, wc.lens.1, wc.lens.2.1, wc.lens.2.2.1⟩
theorem ofMap_any (ht : tb.length = nS) {hs : kHS} (w : World hs W) {j k : Nat} (hj : j < W.cs.length) (hk : k < 8) : Ans (f_X9_ofMap tb (ad 0) j k hs) (omv W j k) W := by
  rcases (show k = 0 ∨ k = 1 ∨ k = 2 ∨ k = 3 ∨ k = 4 ∨ k = 5 ∨ k = 6 ∨ k = 7 by omega) with rfl | rfl | rfl | rfl | rfl | rfl | rfl | rfl
  · exact ofMap_0 ht w hj
  · exact ofMap_1 ht w hj
  · exact ofMap_2 ht w hj
  · exact ofMap_3 ht w hj
  · exact ofMap_4 ht w hj
  · exact ofMap_5 ht w hj
  · exact ofMap_6 ht w hj
  · exact ofMap_7 ht w hj
theorem d_walker (ht : tb.length = nS) {j k : Nat} (hj : j < W.ws.length) (hk : k < 5) : Det (fun hs => f_X9_ofWalker tb (ad 0) j k hs) W := by
  rcases (show k = 0 ∨ k = 1 ∨ k = 2 ∨ k = 3 ∨ k = 4 by omega) with rfl | rfl | rfl | rfl | rfl
  · exact Det.of fun hs w => ofWalker_0 ht w hj
  · exact Det.of fun hs w => ofWalker_1 ht w hj
  · exact Det.of fun hs w => ofWalker_2 ht w hj
  · exact Det.of fun hs w => ofWalker_3 ht w hj
  · exact Det.of fun hs w => ofWalker_4 ht w hj
theorem d_claim (ht : tb.length = nS) {j k : Nat} (hj : j < W.ks.length) (hk : k < 5) : Det (fun hs => f_X9_ofClaim tb (ad 0) j k hs) W := by
  rcases (show k = 0 ∨ k = 1 ∨ k = 2 ∨ k = 3 ∨ k = 4 by omega) with rfl | rfl | rfl | rfl | rfl
  · exact Det.of fun hs w => ofClaim_0 ht w hj
  · exact Det.of fun hs w => ofClaim_1 ht w hj
  · exact Det.of fun hs w => ofClaim_2 ht w hj
  · exact Det.of fun hs w => ofClaim_3 ht w hj
  · exact Det.of fun hs w => ofClaim_4 ht w hj
theorem Det.eq {F G : kHS → Option (dR Nat)} (a : Det G W) (h : ∀ hs, World hs W → F hs = G hs) : Det F W := by
  obtain ⟨v, hG⟩ := a
  refine ⟨v, fun hs w => ?_⟩
  rw [h hs w]
  exact hG hs w
theorem d_ref (ht : tb.length = nS) : ∀ (l m v k : Nat), k + l = W.ks.length → Det (fun hs => lp_X9_refutedClaims tb (m + l + 1) (ad 0) v k hs) W := by
  intro l
  induction l with
  | zero =>
    intro m v k hk
    refine (Det.ret v).eq fun hs w => ?_
    obtain ⟨_, _, h8, b1, b2, b3⟩ := w.w6
    rw [show m + 0 + 1 = m + 1 from rfl, lp_X9_refutedClaims_s0]
    unfold lb0_X9_refutedClaims
    rw [h8, ob_s, wle_s (by omega) (by omega), decide_eq_true (by omega), cond_true]
  | succ l ih =>
    intro m v k hk
    obtain hb | hb := Classical.em (∃ hs, World hs W)
    · obtain ⟨h0, w0⟩ := hb
      have kk := w0.kl (show k < W.ks.length by omega)
      refine (Det.eq (G := fun hs => bif Nat.beq (W.kl k).r 0 then lp_X9_refutedClaims tb (m + l + 1) (ad 0) v (k + 1) hs else lp_X9_refutedClaims tb (m + l + 1) (ad 0) (wadd v 1) (k + 1) hs) ?_ fun hs w => ?_)
      · cases Nat.beq (W.kl k).r 0 with
        | true => exact ih m v (k + 1) (by omega)
        | false => exact ih m _ (k + 1) (by omega)
      · obtain ⟨g, wc, hc⟩ := w
        obtain ⟨h, c⟩ := hs
        have hl := wc.lens
        rw [show m + (l + 1) + 1 = (m + l + 1) + 1 from rfl, lp_X9_refutedClaims_s0]
        unfold lb0_X9_refutedClaims
        rw [wc.g8, ob_s, wle_s (by omega) (by omega), decide_eq_false (by omega), cond_false, wc.tag, ob_s, wc.claimAt ht (show k < W.ks.length by omega), obW_l]
        dsimp only
        rw [dgI_ad (k := 4) (x := (W.kl k).r) (wc.kI (show k < W.ks.length by omega)) rfl (by omega), ob_s, weq_s (by omega) (by decide)]
        cases hb : Nat.beq (W.kl k).r 0 with
        | true => rw [decide_eq_true (Nat.eq_of_beq_eq_true hb), cond_true, cond_true, dl_eq, wadd_s (by omega)]
        | false => rw [decide_eq_false (fun e => by rw [e] at hb; cases hb), cond_false, cond_false, dl_eq, dl_eq, wadd_s (show k + 1 < 4294967296 by omega)]
    · exact ⟨0, fun hs w => absurd ⟨hs, w⟩ hb⟩
theorem d_many (ht : tb.length = nS) {k : Nat} (hk : k < 7) : Det (fun hs => f_X9_many tb (ad 0) k hs) W := by
  rcases (show k = 0 ∨ k = 1 ∨ k = 2 ∨ k = 3 ∨ k = 4 ∨ k = 5 ∨ k = 6 by omega) with rfl | rfl | rfl | rfl | rfl | rfl | rfl
  · exact Det.of fun hs w => many_0 w
  · exact Det.of fun hs w => many_1 w
  · exact Det.of fun hs w => many_2 w
  · exact Det.of fun hs w => many_3 w
  · obtain hb | hb := Classical.em (∃ hs, World hs W)
    · obtain ⟨h0, w0⟩ := hb
      have b3 := w0.w6.2.2.2.2.2
      have e := d_ref (W := W) ht W.ks.length (dF - W.ks.length - 1) 0 0 (by omega)
      rw [show dF - W.ks.length - 1 + W.ks.length + 1 = dF by unfold dF; omega] at e
      refine Det.eq (G := fun hs => dchk hs (ob (dtag nS c_X9 hs.1 (ad 0)) fun _ => obW (f_X9_refutedClaims tb (ad 0) hs) fun x6 s7 => some (.inl x6, s7))) ?_ fun hs w => ?_
      · exact ((e.chk).bind (fun v => Det.ret v)).tag.chk
      · unfold f_X9_many
        rw [show wlt 4 0 = false from rfl, cond_false, show wlt 4 7 = true from rfl, cond_true, show weq 4 0 = false from rfl, cond_false, show weq 4 1 = false from rfl, cond_false, show weq 4 2 = false from rfl, cond_false, show weq 4 3 = false from rfl, cond_false, show weq 4 4 = true from rfl, cond_true]
    · exact ⟨0, fun hs w => absurd ⟨hs, w⟩ hb⟩
  · exact Det.of fun hs w => many_5 w
  · exact Det.of fun hs w => many_6 w
theorem d_signs_lp (ht : tb.length = nS) {f a : Nat} (hf : f < 3) (ha : a < 4) : ∀ (l m v k : Nat), k + l = 37 → Det (fun hs => lp_X9_signs tb (m + l + 1) (ad 0) f a v k hs) W := by
  intro l
  induction l with
  | zero =>
    intro m v k hk
    refine (Det.ret v).eq fun hs w => ?_
    rw [show m + 0 + 1 = m + 1 from rfl, lp_X9_signs_s0]
    unfold lb0_X9_signs
    rw [wlt_s (by decide) (by omega), decide_eq_true (by omega), cond_true]
  | succ l ih =>
    intro m v k hk
    refine (ih m (wadd v (wmul (bif odd k then 1 else 4294967295) (nof W.n f a k))) (k + 1) (by omega)).eq fun hs w => ?_
    obtain ⟨g, wc, hc⟩ := w
    rw [show m + (l + 1) + 1 = (m + l + 1) + 1 from rfl, lp_X9_signs_s0]
    unfold lb0_X9_signs
    rw [wlt_s (by decide) (by omega), decide_eq_false (by omega), cond_false, sgn_ok (by omega), ob_s, wc.g5, ob_s, wc.Rl.1.tag, ob_s, wc.Rl.1.countOf ht hf ha (by omega), ob_s, dl_eq, dl_eq, wadd_s (show k + 1 < 4294967296 by omega)]
theorem d_signs (ht : tb.length = nS) {f a : Nat} (hf : f < 3) (ha : a < 4) : Det (fun hs => f_X9_signs tb (ad 0) f a hs) W := by
  have e := d_signs_lp (W := W) ht hf ha 37 (dF - 38) 0 0 rfl
  refine Det.eq (G := fun hs => dchk hs (lp_X9_signs tb dF (ad 0) f a 0 0 hs)) (Det.chk e) fun hs w => ?_
  unfold f_X9_signs
  rw [needFamily_ok hf, obW_l, needStatistic_ok ha, obW_l]
end DT
