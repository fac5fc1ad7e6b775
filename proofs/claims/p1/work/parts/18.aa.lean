/-! ===== rules of the operations that p1 has more than p31 ===== -/
section DG5
variable {M : kCall → Nat → List (List kOp)} {ML : Nat → Nat} {mi mi' d0 d' b b' n : Nat} {r : kRes} {os : kCall → List kOp} {L : List (Nat × Value)} {S : List Value} {hs hs' : kHS}
theorem g_same {β : Type} {a c b1 : Nat} {X : Option β} {y : β} (hf : (ob (dnn a) fun _ => bif Nat.beq a c then X else none) = some y) (k : X = some y → kRn M ML mi d0 b1 (L, S, hs) r) : kGo M ML mi d0 (fun _ => [tSame b1]) b (L, rv c :: rv a :: S, hs) r := by
  obtain ⟨⟨⟩, h1, h2⟩ := ob_some hf
  obtain ⟨z, rfl⟩ := dnn_some h1
  cases hc : Nat.beq (z + 1) c with
  | false => rw [hc] at h2; cases h2
  | true =>
    rw [hc] at h2
    have e := Nat.eq_of_beq_eq_true hc
    subst e
    refine g_jump (b' := b1) ?_ (k h2)
    show (bif Nat.beq z z then some (Sum.inl (b1, (L, S, hs))) else none) = _
    rw [show Nat.beq z z = true from Nat.beq_refl z]
    rfl
noncomputable def dbox (a : Nat) : Option Nat := bif Nat.ble (Nat.mod a 4294967296) 10 then some (Nat.mod a 4294967296 + 10) else none
theorem g_box {β : Type} {K : Nat → Option β} {y : β} {i a : Nat} (hk : kget L i = some (.int (nI a))) (hf : ob (dbox a) K = some y) (k : ∀ v, K v = some y → kGo M ML mi d0 os 0 (L, rv v :: S, hs) r) : kGo M ML mi d0 (fun cl => oBox i :: os cl) b (L, S, hs) r := by
  obtain ⟨v, h1, h2⟩ := ob_some hf
  unfold dbox at h1
  cases hc : Nat.ble (Nat.mod a 4294967296) 10 with
  | false => rw [hc] at h1; cases h1
  | true =>
    rw [hc] at h1
    cases h1
    have hle := Nat.le_of_ble_eq_true hc
    have hw : wpos a = true := wpos_iff.mpr (by show Nat.mod a 4294967296 < _; omega)
    have e1 : (nI a).toNatClampNeg = Nat.mod a 4294967296 := clamp_w hw
    have e2 : Int32.ofNat (Nat.mod a 4294967296) = nI a := nI_modw a
    refine g_op ?_ (k _ h2)
    unfold oBox
    dsimp only
    rw [hk]
    dsimp only
    rw [e1, hc, e2, decide_eq_true rfl, Bool.and_self, cond_true, show 9 + Nat.mod a 4294967296 = Nat.mod a 4294967296 + 9 from Nat.add_comm _ _]
    rfl
noncomputable def dcopy (n : Nat) (hs : kHS) (a0 sp a dp cnt : Nat) : Option kHS := ob (dcell n hs.1 a0) fun q => ob (dcell n hs.1 a) fun u => bif (Nat.beq q.1 100 && Nat.beq u.1 100) && ((weq dp 0 && weq sp 0) && (wpos cnt && ((Nat.ble (Nat.mod cnt 4294967296) q.2.length && Nat.ble (Nat.mod cnt 4294967296) u.2.length) && (q.2.take (Nat.mod cnt 4294967296)).all isI))) then some (hs.1.set (Nat.pred a - n) (100, q.2.take (Nat.mod cnt 4294967296) ++ u.2.drop (Nat.mod cnt 4294967296)), hs.2) else none
theorem g_copy {β : Type} {K : kHS → Option β} {y : β} {nS a0 sp a dp cnt : Nat} (hf : ob (dcopy nS hs a0 sp a dp cnt) K = some y) (h8 : Nat.ble (ksz S) 8 = true) (k : ∀ h1, K h1 = some y → kGo M ML mi d0 os 0 (L, S, h1) r) : kGo M ML mi d0 (fun cl => oCopyI nS :: os cl) b (L, .int (nI cnt) :: .int (nI dp) :: rv a :: .int (nI sp) :: rv a0 :: S, hs) r := by
  obtain ⟨h1, e1, e2⟩ := ob_some hf
  obtain ⟨q, e3, e4⟩ := ob_some e1
  obtain ⟨c, rfl, e5⟩ := dcell_some e3
  obtain ⟨u, e6, e7⟩ := ob_some e4
  obtain ⟨w, rfl, e8⟩ := dcell_some e6
  refine g_op ?_ (k h1 e2)
  cases hc : ((Nat.beq q.1 100 && Nat.beq u.1 100) && ((weq dp 0 && weq sp 0) && (wpos cnt && ((Nat.ble (Nat.mod cnt 4294967296) q.2.length && Nat.ble (Nat.mod cnt 4294967296) u.2.length) && (q.2.take (Nat.mod cnt 4294967296)).all isI)))) with
  | false => rw [hc] at e7; cases e7
  | true =>
    rw [hc] at e7
    cases e7
    simp only [Bool.and_eq_true] at hc
    obtain ⟨⟨c1, c2⟩, ⟨c3, c4⟩, c5, ⟨c6, c7⟩, c8⟩ := hc
    unfold oCopyI
    show (match kcell nS hs.1 c, kcell nS hs.1 w with | some q, some u => _ | _, _ => _) = _
    rw [e5, e8]
    dsimp only
    have hneg : decide (0 ≤ nI cnt) = true := by
      have h9 : decide (nI 0 ≤ nI cnt) = wle 0 cnt := w_le 0 cnt
      refine h9.trans ?_
      unfold wle
      have := wpos_iff.mp c5
      rw [Nat.ble_eq]
      show (0 + 2147483648) % 4294967296 ≤ (cnt + 2147483648) % 4294967296
      omega
    rw [clamp_w c5, c1, c2, show decide (nI dp = 0) = true from (w_eq dp 0).trans c3, show decide (nI sp = 0) = true from (w_eq sp 0).trans c4, hneg, c6, c7, c8, h8]
    rfl
noncomputable def dastO (n : Nat) (pa : Nat → Bool) (hs : kHS) (a i v : Nat) : Option kHS := ob (dcell n hs.1 a) fun q => ob (dnn v) fun _ => bif Nat.beq q.1 109 && (bif Nat.ble n (Nat.pred v) then @Option.rec kCel (fun _ => Bool) false (fun u => pa u.1) hs.1[Nat.pred v - n]? else Nat.ble 9 (Nat.pred v)) then ob (didx q.2 i) (fun _ => some (hs.1.set (Nat.pred a - n) (q.1, q.2.set (Nat.mod i 4294967296) (rv v)), hs.2)) else none
theorem g_astO {β : Type} {K : kHS → Option β} {y : β} {nS a i v : Nat} {pa : Nat → Bool} (hf : ob (dastO nS pa hs a i v) K = some y) (k : ∀ h1, K h1 = some y → kGo M ML mi d0 os 0 (L, S, h1) r) : kGo M ML mi d0 (fun cl => oAstO nS pa :: os cl) b (L, rv v :: .int (nI i) :: rv a :: S, hs) r := by
  obtain ⟨h1, e1, e2⟩ := ob_some hf
  obtain ⟨q, e3, e4⟩ := ob_some e1
  obtain ⟨c, rfl, e5⟩ := dcell_some e3
  obtain ⟨⟨⟩, e6, e7⟩ := ob_some e4
  obtain ⟨w, rfl⟩ := dnn_some e6
  refine g_op ?_ (k h1 e2)
  have ee : (@Option.rec kCel (fun _ => Bool) false (fun u => pa u.1) hs.1[w - nS]?) = (match hs.1[w - nS]? with | some u => pa u.1 | none => false) := by cases hs.1[w - nS]? <;> rfl
  rw [show (w + 1).pred = w from rfl, ee] at e7
  cases hc : (Nat.beq q.1 109 && (bif Nat.ble nS w then (match hs.1[w - nS]? with | some u => pa u.1 | none => false) else Nat.ble 9 w)) with
  | false => rw [hc] at e7; cases e7
  | true =>
    rw [hc] at e7
    obtain ⟨z, z1, z2⟩ := ob_some (show ob (didx q.2 i) _ = some h1 from e7)
    unfold oAstO
    show (match kcell nS hs.1 c with | some q => _ | none => _) = _
    rw [e5]
    dsimp only
    show (bif (Nat.beq q.1 109 && (bif Nat.ble nS w then (match hs.1[w - nS]? with | some u => pa u.1 | none => false) else Nat.ble 9 w)) then _ else none) = _
    rw [hc, cond_true, kidx_w, z1, clamp_w (didx_pos z1)]
    cases z2
    rfl
theorem g_astA {β : Type} {K : kHS → Option β} {y : β} {nS a i v : Nat} (hf : ob (dastA nS 104 100 hs a i v) K = some y) (k : ∀ h1, K h1 = some y → kGo M ML mi d0 os 0 (L, S, h1) r) : kGo M ML mi d0 (fun cl => oAstA nS :: os cl) b (L, rv v :: .int (nI i) :: rv a :: S, hs) r := g_aast hf k
theorem g_callF {τ β : Type} {f : Option τ} {K : τ → Option β} {y : β} {e : τ → Option Value} {args : List Value} {S1 : τ → List Value} {nS ci a : Nat} (hf : (ob (dtag nS ci hs.1 a) fun _ => ob f K) = some y) (hSa : S.drop n = rv a :: S.drop (n + 1)) (T : ∀ v, f = some v → kEv M ML mi' d' args hs (.inl (e v), hs)) (hd : d' ≤ d0) (ha : (S.take (n + 1)).reverse = args) (hz : (Nat.ble (n + 1) S.length && Nat.ble (ksz (S.drop (n + 1))) 8) = true) (hS : ∀ v, (e v).toList ++ S.drop (n + 1) = S1 v) (k : ∀ v, K v = some y → kGo M ML mi d0 os 0 (L, S1 v, hs) r) : kGo M ML mi d0 (fun cl => oCallF cl mi' n ci nS :: os cl) b (L, S, hs) r := by
  obtain ⟨⟨⟩, h1, h2⟩ := ob_some hf
  obtain ⟨c, q, rfl, h3, h4⟩ := dtag_some h1
  obtain ⟨v, h5, h6⟩ := ob_some h2
  obtain ⟨n0, hk⟩ := k v h6
  obtain ⟨F0, hE⟩ := T v h5
  refine ⟨max n0 F0, fun m F g1 g2 d hdd => ?_⟩
  have e1 := hE F (by omega) d (by omega)
  have e2 : oCallF (kcall M ML F d) mi' n ci nS (L, S, hs) = some (.inl (0, (L, S1 v, hs))) := by
    have e0 : oCallV (kcall M ML F d) mi' n ci nS (L, S, hs) = some (.inl (0, (L, S1 v, hs))) := by
      unfold oCallV
      dsimp only
      rw [hSa]
      show (match kcell nS hs.1 c with | some q => _ | none => _) = _
      rw [h3]
      dsimp only
      rw [h4, show Nat.beq ci ci = true from Nat.beq_refl ci, cond_true]
      unfold oCall
      dsimp only
      rw [hz, ha, e1, ← hS v]
      rfl
    unfold oCallF
    rw [e0]
  rw [kgo_l e2]
  exact hk m F (by omega) (by omega) d hdd
/-- what is thrown goes another way -/
noncomputable def obX {τ ρ : Type} (o : Option (dR τ)) (K : τ → kHS → Option (dR ρ)) (X : Nat → kHS → Option (dR ρ)) : Option (dR ρ) := @Option.rec (dR τ) (fun _ => Option (dR ρ)) none (fun q => @Sum.rec τ Nat (fun _ => Option (dR ρ)) (fun v => K v q.2) (fun k => X k q.2) q.1) o
theorem obX_some {τ ρ : Type} {o : Option (dR τ)} {K : τ → kHS → Option (dR ρ)} {X : Nat → kHS → Option (dR ρ)} {y : dR ρ} (h : obX o K X = some y) : (∃ v hs, o = some (.inl v, hs) ∧ K v hs = some y) ∨ ∃ k hs, o = some (.inr k, hs) ∧ X k hs = some y := by
  cases o with
  | none => cases h
  | some q =>
    obtain ⟨v | k, hs⟩ := q
    · exact Or.inl ⟨v, hs, rfl, h⟩
    · exact Or.inr ⟨k, hs, rfl, h⟩
theorem kKeep_f (i : Nat) (L : List (Nat × Value)) : kKeep i L (L.filter (kf1 i)) := by
  intro j v h h1 h2
  refine kget_fil ?_ h
  unfold kf1
  have e1 : (j == i) = false := by simpa using h1
  rcases h2 with h2 | h2
  · simp [e1, h2]
  · have e2 : (j + 1 == i) = false := by simpa using h2
    simp [e1, e2]
theorem g_hk {j c : Nat} {hk : Nat → Option (Nat × Nat)} {q : Nat × Nat} (h : Nat.beq j c = true) (hq : hk c = some q) : hk j = some q := by
  rw [Nat.eq_of_beq_eq_true h]
  exact hq
theorem g_hkn {j c : Nat} {bi : Nat × Nat} {L : List (Nat × Nat × Nat)} {q : Nat × Nat} (h : Nat.beq j c = false) (hq : hkL L j = some q) : hkL ((c, bi) :: L) j = some q := by
  unfold hkL
  have : Nat.beq c j = false := by
    cases hh : Nat.beq c j with
    | false => rfl
    | true =>
      rw [Nat.eq_of_beq_eq_true hh, show Nat.beq j j = true from Nat.beq_refl j] at h
      cases h
  dsimp only
  rw [this]
  exact hq
theorem g_callVX {τ ρ : Type} {f : Option (dR τ)} {K : τ → kHS → Option (dR ρ)} {X : Nat → kHS → Option (dR ρ)} {y : dR ρ} {e : τ → Option Value} {e2 : ρ → Option Value} {args : List Value} {S1 : τ → List Value} {nS ci a b0 : Nat} {hk : Nat → Option (Nat × Nat)} (hf : (ob (dtag nS ci hs.1 a) fun _ => obX f K X) = some y) (hSa : S.drop n = rv a :: S.drop (n + 1)) (T : ∀ q, f = some q → kEv M ML mi' d' args hs (eW e q)) (hd : d' ≤ d0) (ha : (S.take (n + 1)).reverse = args) (hz : (Nat.ble (n + 1) S.length && Nat.ble (ksz (S.drop (n + 1))) 8) = true) (hS : ∀ v, (e v).toList ++ S.drop (n + 1) = S1 v) (kk : ∀ v h1, K v h1 = some y → kRn M ML mi d0 b0 (L, S1 v, h1) (eW e2 y)) (kx : ∀ j h1, X j h1 = some y → ∃ q, hk j = some q ∧ ∀ L', kKeep q.2 L L' → kRn M ML mi d0 q.1 (L', [], h1) (eW e2 y)) : kGo M ML mi d0 (fun cl => [oCallVX cl mi' n ci nS hk b0]) b (L, S, hs) (eW e2 y) := by
  obtain ⟨⟨⟩, h1, h2⟩ := ob_some hf
  obtain ⟨c, q, rfl, h3, h4⟩ := dtag_some h1
  have hv : ∀ cl, oCallVX cl mi' n ci nS hk b0 (L, S, hs) = oCallX cl mi' (n + 1) hk b0 (L, S, hs) := by
    intro cl
    unfold oCallVX
    dsimp only
    rw [hSa]
    show (match kcell nS hs.1 c with | some q => _ | none => _) = _
    rw [h3]
    dsimp only
    rw [h4, show Nat.beq ci ci = true from Nat.beq_refl ci, cond_true]
  rcases obX_some h2 with ⟨v, hs1, a1, a2⟩ | ⟨j, hs1, a1, a2⟩
  · obtain ⟨n0, hk0⟩ := kk v hs1 a2
    obtain ⟨F0, hE⟩ := T _ a1
    refine ⟨max n0 F0, fun m F g1 g2 d hdd => ?_⟩
    have e1 := hE F (by omega) d (by omega)
    have e3 : oCallVX (kcall M ML F d) mi' n ci nS hk b0 (L, S, hs) = some (.inl (b0, (L, S1 v, hs1))) := by
      rw [hv]
      unfold oCallX
      dsimp only
      rw [hz, ha, e1, eW_l, ← hS v]
      rfl
    dsimp only
    rw [kgo_l e3]
    exact hk0 m F (by omega) (by omega) d hdd
  · obtain ⟨p, hp, hk1⟩ := kx j hs1 a2
    obtain ⟨n0, hk0⟩ := hk1 _ (kKeep_f p.2 L)
    obtain ⟨F0, hE⟩ := T _ a1
    refine ⟨max n0 F0, fun m F g1 g2 d hdd => ?_⟩
    have e1 := hE F (by omega) d (by omega)
    have e3 : oCallVX (kcall M ML F d) mi' n ci nS hk b0 (L, S, hs) = some (.inl (p.1, (L.filter (kf1 p.2), [], hs1))) := by
      rw [hv]
      unfold oCallX
      dsimp only
      rw [hz, ha, e1, eW_r]
      dsimp only [cond_true]
      rw [hp]
    dsimp only
    rw [kgo_l e3]
    exact hk0 m F (by omega) (by omega) d hdd
theorem g_callVXP {τ ρ : Type} {f : Option τ} {K : τ → Option (dR ρ)} {y : dR ρ} {e : τ → Option Value} {e2 : ρ → Option Value} {args : List Value} {S1 : τ → List Value} {nS ci a b0 : Nat} {hk : Nat → Option (Nat × Nat)} (hf : (ob (dtag nS ci hs.1 a) fun _ => ob f K) = some y) (hSa : S.drop n = rv a :: S.drop (n + 1)) (T : ∀ v, f = some v → kEv M ML mi' d' args hs (.inl (e v), hs)) (hd : d' ≤ d0) (ha : (S.take (n + 1)).reverse = args) (hz : (Nat.ble (n + 1) S.length && Nat.ble (ksz (S.drop (n + 1))) 8) = true) (hS : ∀ v, (e v).toList ++ S.drop (n + 1) = S1 v) (kk : ∀ v, K v = some y → kRn M ML mi d0 b0 (L, S1 v, hs) (eW e2 y)) : kGo M ML mi d0 (fun cl => [oCallVX cl mi' n ci nS hk b0]) b (L, S, hs) (eW e2 y) := by
  obtain ⟨⟨⟩, h1, h2⟩ := ob_some hf
  obtain ⟨c, q, rfl, h3, h4⟩ := dtag_some h1
  obtain ⟨v, a1, a2⟩ := ob_some h2
  obtain ⟨n0, hk0⟩ := kk v a2
  obtain ⟨F0, hE⟩ := T _ a1
  refine ⟨max n0 F0, fun m F g1 g2 d hdd => ?_⟩
  have e1 := hE F (by omega) d (by omega)
  have e3 : oCallVX (kcall M ML F d) mi' n ci nS hk b0 (L, S, hs) = some (.inl (b0, (L, S1 v, hs))) := by
    unfold oCallVX
    dsimp only
    rw [hSa]
    show (match kcell nS hs.1 c with | some q => _ | none => _) = _
    rw [h3]
    dsimp only
    rw [h4, show Nat.beq ci ci = true from Nat.beq_refl ci, cond_true]
    unfold oCallX
    dsimp only
    rw [hz, ha, e1, ← hS v]
    rfl
  dsimp only
  rw [kgo_l e3]
  exact hk0 m F (by omega) (by omega) d hdd
/-- reads of rows of ints that never go to the script's row -/
noncomputable def daldG (tb : List (List Int32)) (h : List kCel) (a i : Nat) : Option Nat := bif Nat.beq a 8 then none else daldI tb h a i
noncomputable def dalenG (tb : List (List Int32)) (h : List kCel) (a : Nat) : Option Nat := bif Nat.beq a 8 then none else dalen tb h a
theorem daldG_c {tb tb' : List (List Int32)} {h h' : List kCel} {a i : Nat} (e : daldI tb h a i = daldI tb' h' a i) : daldG tb h a i = daldG tb' h' a i := by
  unfold daldG
  rw [e]
theorem dalenG_c {tb tb' : List (List Int32)} {h h' : List kCel} {a : Nat} (e : dalen tb h a = dalen tb' h' a) : dalenG tb h a = dalenG tb' h' a := by
  unfold dalenG
  rw [e]
theorem g_ialdG {β : Type} {tb : List (List Int32)} {K : Nat → Option β} {y : β} {a i : Nat} (hf : ob (daldG tb hs.1 a i) K = some y) (k : ∀ x, K x = some y → kGo M ML mi d0 os 0 (L, .int (nI x) :: S, hs) r) : kGo M ML mi d0 (fun cl => oIald tb :: os cl) b (L, .int (nI i) :: rv a :: S, hs) r := by
  refine g_iald (hs := hs) (a := a) ?_ k
  unfold daldG at hf
  cases hc : Nat.beq a 8 with
  | true => rw [hc] at hf; cases hf
  | false => rw [hc] at hf; exact hf
theorem g_alenG {β : Type} {tb : List (List Int32)} {K : Nat → Option β} {y : β} {a : Nat} (hf : ob (dalenG tb hs.1 a) K = some y) (k : ∀ x, K x = some y → kGo M ML mi d0 os 0 (L, .int (nI x) :: S, hs) r) : kGo M ML mi d0 (fun cl => oAlen tb :: os cl) b (L, rv a :: S, hs) r := by
  refine g_alen (hs := hs) (a := a) ?_ k
  unfold dalenG at hf
  cases hc : Nat.beq a 8 with
  | true => rw [hc] at hf; cases hf
  | false => rw [hc] at hf; exact hf
end DG5
