/-! ===== what a method's function of Lean says of the machine ===== -/
noncomputable def ob {α β : Type} (o : Option α) (f : α → Option β) : Option β := @Option.rec α (fun _ => Option β) none f o
theorem ob_some {α β : Type} {o : Option α} {f : α → Option β} {r : β} (h : ob o f = some r) : ∃ x, o = some x ∧ f x = some r := by
  cases o with
  | none => cases h
  | some x => exact ⟨x, rfl, h⟩
theorem ob_mk {α β : Type} {o : Option α} {f : α → Option β} {x : α} (h : o = some x) : ob o f = f x := by rw [h]; rfl
/-- a result that may be a throw -/
abbrev dR (τ : Type) : Type := (τ ⊕ Nat) × kHS
noncomputable def obW {τ ρ : Type} (o : Option (dR τ)) (K : τ → kHS → Option (dR ρ)) : Option (dR ρ) := @Option.rec (dR τ) (fun _ => Option (dR ρ)) none (fun q => @Sum.rec τ Nat (fun _ => Option (dR ρ)) (fun v => K v q.2) (fun k => some (.inr k, q.2)) q.1) o
theorem obW_some {τ ρ : Type} {o : Option (dR τ)} {K : τ → kHS → Option (dR ρ)} {y : dR ρ} (h : obW o K = some y) : (∃ v hs, o = some (.inl v, hs) ∧ K v hs = some y) ∨ ∃ k hs, o = some (.inr k, hs) ∧ y = (.inr k, hs) := by
  cases o with
  | none => cases h
  | some q =>
    obtain ⟨v | k, hs⟩ := q
    · exact Or.inl ⟨v, hs, rfl, h⟩
    · exact Or.inr ⟨k, hs, rfl, (Option.some.inj h).symm⟩
/-- a reference, or null, by a number -/
def rv (a : Nat) : Value := bif Nat.beq a 0 then .null else .ref (Nat.pred a)
theorem rv_0 : rv 0 = .null := rfl
theorem rv_s (a : Nat) : rv (a + 1) = .ref a := rfl
theorem rv_cat (a : Nat) : (rv a).category = 1 := by cases a <;> rfl
def eI (x : Nat) : Option Value := some (.int (nI x))
def eA (x : Nat) : Option Value := some (rv x)
def eL (x : Nat) : Option Value := some (.long (lN x))
def eD (x : UInt64) : Option Value := some (.double x)
def eU (_ : Unit) : Option Value := none
def eW {τ : Type} (e : τ → Option Value) (y : dR τ) : kRes := (match y.1 with | .inl v => .inl (e v) | .inr k => .inr k, y.2)
theorem eW_l {τ : Type} (e : τ → Option Value) (v : τ) (hs : kHS) : eW e (.inl v, hs) = (.inl (e v), hs) := rfl
theorem eW_r {τ : Type} (e : τ → Option Value) (k : Nat) (hs : kHS) : eW e (.inr k, hs) = (.inr k, hs) := rfl
def kgo (bl : List (List kOp)) (n : Nat) (os : List kOp) (b : Nat) (fs : kFS) : Option kRes := match kseq os b fs with
  | some (.inl q) => krun bl n q.1 q.2
  | some (.inr r) => some r
  | none => none
theorem kgo_l {bl : List (List kOp)} {n b : Nat} {o : kOp} {os : List kOp} {fs : kFS} {q : Nat × kFS} (h : o fs = some (.inl q)) : kgo bl n (o :: os) b fs = kgo bl n os q.1 q.2 := by
  unfold kgo
  rw [show kseq (o :: os) b fs = kseq os q.1 q.2 from by rw [kseq, h]]
theorem kgo_r {bl : List (List kOp)} {n b : Nat} {o : kOp} {os : List kOp} {fs : kFS} {r : kRes} (h : o fs = some (.inr r)) : kgo bl n (o :: os) b fs = some r := by
  unfold kgo
  rw [show kseq (o :: os) b fs = some (.inr r) from by rw [kseq, h]]
/-! locals -/
theorem kget_hd (i : Nat) (v : Value) (L : List (Nat × Value)) : kget ((i, v) :: L) i = some v := by
  rw [kget]
  simp
theorem kget_tl {i j : Nat} {v w : Value} {L : List (Nat × Value)} (h : kget L j = some v) (hij : j ≠ i) : kget ((i, w) :: L) j = some v := by
  rw [kget]
  have : (i == j) = false := by simp; omega
  simp only [this, cond_false]
  exact h
theorem kget_fil {g : Nat × Value → Bool} {j : Nat} {v : Value} (hg : g (j, v) = true) : ∀ {L : List (Nat × Value)}, kget L j = some v → kget (L.filter g) j = some v
  | [], h => by cases h
  | q :: L, h => by
    obtain ⟨a, w⟩ := q
    rw [kget] at h
    rw [List.filter_cons]
    cases hq : (a == j) with
    | true =>
      rw [hq] at h
      have e1 : a = j := by simpa using hq
      have e2 : w = v := by simpa using h
      subst e1 e2
      rw [if_pos hg]
      exact kget_hd _ _ _
    | false =>
      rw [hq] at h
      have h2 : kget (L.filter g) j = some v := kget_fil hg (by simpa using h)
      split
      · refine kget_tl h2 ?_
        intro z
        subst z
        simp at hq
      · exact h2
/-- a local that a store at i leaves -/
def kKeep (i : Nat) (L L' : List (Nat × Value)) : Prop := ∀ (j : Nat) (v : Value), kget L j = some v → j ≠ i → (v.category = 1 ∨ j + 1 ≠ i) → kget L' j = some v
theorem kKeep_1 (i : Nat) (w : Value) (L : List (Nat × Value)) : kKeep i L ((i, w) :: L.filter (kf1 i)) := by
  intro j v h h1 h2
  refine kget_tl (kget_fil ?_ h) h1
  unfold kf1
  have e1 : (j == i) = false := by simpa using h1
  rcases h2 with h2 | h2
  · simp [e1, h2]
  · have e2 : (j + 1 == i) = false := by simpa using h2
    simp [e1, e2]
def kKeep2 (i : Nat) (L L' : List (Nat × Value)) : Prop := ∀ (j : Nat) (v : Value), kget L j = some v → j ≠ i → j ≠ i + 1 → (v.category = 1 ∨ j + 1 ≠ i) → kget L' j = some v
theorem kKeep_2 (i : Nat) (w : Value) (L : List (Nat × Value)) : kKeep2 i L ((i, w) :: L.filter (kf2 i)) := by
  intro j v h h1 h3 h2
  refine kget_tl (kget_fil ?_ h) h1
  unfold kf2
  have e1 : (j == i) = false := by simpa using h1
  have e3 : (j == i + 1) = false := by simpa using h3
  rcases h2 with h2 | h2
  · simp [e1, e3, h2]
  · have e2 : (j + 1 == i) = false := by simpa using h2
    simp [e1, e2, e3]
theorem lv_aI (i : Nat) (x : Int32) (vs : List Value) : lv_args i (.int x :: vs) = (i, .int x) :: lv_args (i + 1) vs := rfl
theorem lv_aL (i : Nat) (x : Int64) (vs : List Value) : lv_args i (.long x :: vs) = (i, .long x) :: lv_args (i + 2) vs := rfl
theorem lv_aR (i a : Nat) (vs : List Value) : lv_args i (rv a :: vs) = (i, rv a) :: lv_args (i + 1) vs := by
  rw [lv_args, rv_cat]
  rfl
theorem lv_a0 (i : Nat) : lv_args i [] = [] := rfl
theorem ksz_I (x : Int32) (vs : List Value) : ksz (.int x :: vs) = 1 + ksz vs := rfl
theorem ksz_L (x : Int64) (vs : List Value) : ksz (.long x :: vs) = 2 + ksz vs := rfl
theorem ksz_D (x : UInt64) (vs : List Value) : ksz (.double x :: vs) = 2 + ksz vs := rfl
theorem ksz_R (a : Nat) (vs : List Value) : ksz (rv a :: vs) = 1 + ksz vs := by rw [ksz, rv_cat]
theorem ksz_0 : ksz [] = 0 := rfl
section DG
variable {M : kCall → Nat → List (List kOp)} {ML : Nat → Nat} {mi mi' d0 d' b b' n : Nat} {fs : kFS} {r : kRes} {os : kCall → List kOp} {L : List (Nat × Value)} {S : List Value} {hs hs' : kHS}
/-- the method's answer, however much fuel there is from some on, from some depth on -/
def kEv (M : kCall → Nat → List (List kOp)) (ML : Nat → Nat) (mi d0 : Nat) (args : List Value) (hs : kHS) (r : kRes) : Prop := ∃ F0, ∀ F, F0 ≤ F → ∀ d, d0 ≤ d → kcall M ML F d mi args hs = some r
def kRn (M : kCall → Nat → List (List kOp)) (ML : Nat → Nat) (mi d0 b : Nat) (fs : kFS) (r : kRes) : Prop := ∃ n0, ∀ n F, n0 ≤ n → n0 ≤ F → ∀ d, d0 ≤ d → krun (M (kcall M ML F d) mi) n b fs = some r
def kGo (M : kCall → Nat → List (List kOp)) (ML : Nat → Nat) (mi d0 : Nat) (os : kCall → List kOp) (b : Nat) (fs : kFS) (r : kRes) : Prop := ∃ n0, ∀ n F, n0 ≤ n → n0 ≤ F → ∀ d, d0 ≤ d → kgo (M (kcall M ML F d) mi) n (os (kcall M ML F d)) b fs = some r
theorem kEv_mono {args : List Value} (h : kEv M ML mi d' args hs r) (hd : d' ≤ d0) : kEv M ML mi d0 args hs r := by
  obtain ⟨F0, h⟩ := h
  exact ⟨F0, fun F hF d h1 => h F hF d (Nat.le_trans hd h1)⟩
theorem g_op {o : kOp} {fs' : kFS} (ho : o fs = some (.inl (b', fs'))) (k : kGo M ML mi d0 os b' fs' r) : kGo M ML mi d0 (fun cl => o :: os cl) b fs r := by
  obtain ⟨n0, h⟩ := k
  refine ⟨n0, fun n F h1 h2 d hd => ?_⟩
  rw [kgo_l ho]
  exact h n F h1 h2 d hd
theorem g_fin {o : kOp} (ho : o fs = some (.inr r)) : kGo M ML mi d0 (fun cl => o :: os cl) b fs r := ⟨0, fun n F _ _ d _ => kgo_r ho⟩
theorem g_end (k : kRn M ML mi d0 b fs r) : kGo M ML mi d0 (fun _ => []) b fs r := k
theorem g_jump {o : kOp} {fs' : kFS} (ho : o fs = some (.inl (b', fs'))) (k : kRn M ML mi d0 b' fs' r) : kGo M ML mi d0 (fun _ => [o]) b fs r := g_op (os := fun _ => []) ho (g_end k)
theorem g_blk (hb : ∀ cl, (M cl mi)[b]? = some (os cl)) (k : kGo M ML mi d0 os 0 fs r) : kRn M ML mi d0 b fs r := by
  obtain ⟨n0, h⟩ := k
  refine ⟨n0 + 1, fun n F h1 h2 d hd => ?_⟩
  obtain ⟨m, rfl⟩ : ∃ m, n = m + 1 := ⟨n - 1, by omega⟩
  have h3 := h m F (by omega) (by omega) d hd
  rw [krun]
  dsimp only
  rw [hb]
  exact h3
theorem g_met {args : List Value} {mL : Nat} (hml : ML mi = mL) (hz : Nat.ble (ksz args) mL = true) (hc : (Nat.ble hs.2.1 r.2.2.1 && Nat.ble hs.2.2 r.2.2.2) = true) (k : kRn M ML mi d0 0 (lv_args 0 args, [], hs) r) : kEv M ML mi (d0 + 1) args hs r := by
  obtain ⟨n0, h⟩ := k
  refine ⟨n0, fun F hF d hd => ?_⟩
  obtain ⟨e, rfl⟩ : ∃ e, d = e + 1 := ⟨d - 1, by omega⟩
  have h3 := h F F hF hF e (by omega)
  rw [kcall]
  dsimp only
  rw [hml, hz, h3]
  dsimp only [cond_true]
  rw [hc]
  rfl
theorem g_metI {args : List Value} {mL : Nat} (hml : ML mi = mL) (hz : Nat.ble (ksz args) mL = true) {e : Option Value ⊕ Nat} (k : kRn M ML mi d0 0 (lv_args 0 args, [], hs) (e, hs)) : kEv M ML mi (d0 + 1) args hs (e, hs) := g_met hml hz (by simp) k
/-! calls -/
theorem g_callE {args : List Value} {vo : Option Value} (hE : kEv M ML mi' d' args hs (.inl vo, hs')) (hd : d' ≤ d0) (ha : (S.take n).reverse = args) (hz : (Nat.ble n S.length && Nat.ble (ksz (S.drop n)) 8) = true) (k : kGo M ML mi d0 os 0 (L, vo.toList ++ S.drop n, hs') r) : kGo M ML mi d0 (fun cl => oCall cl mi' n :: os cl) b (L, S, hs) r := by
  obtain ⟨n0, h⟩ := k
  obtain ⟨F0, hE⟩ := hE
  refine ⟨max n0 F0, fun m F h1 h2 d hdd => ?_⟩
  have e1 := hE F (by omega) d (by omega)
  have e2 : oCall (kcall M ML F d) mi' n (L, S, hs) = some (.inl (0, (L, vo.toList ++ S.drop n, hs'))) := by
    unfold oCall
    dsimp only
    rw [hz, ha, e1]
    rfl
  rw [kgo_l e2]
  exact h m F (by omega) (by omega) d hdd
theorem g_callX {args : List Value} {k : Nat} (hE : kEv M ML mi' d' args hs (.inr k, hs')) (hd : d' ≤ d0) (ha : (S.take n).reverse = args) (hz : (Nat.ble n S.length && Nat.ble (ksz (S.drop n)) 8) = true) : kGo M ML mi d0 (fun cl => oCall cl mi' n :: os cl) b (L, S, hs) (.inr k, hs') := by
  obtain ⟨F0, hE⟩ := hE
  refine ⟨F0, fun m F h1 h2 d hdd => ?_⟩
  have e1 := hE F (by omega) d (by omega)
  have e2 : oCall (kcall M ML F d) mi' n (L, S, hs) = some (.inr (.inr k, hs')) := by
    unfold oCall
    dsimp only
    rw [hz, ha, e1]
    rfl
  exact kgo_r e2
theorem g_vir {ci nS a : Nat} (hc : ∃ q, kcell nS hs.1 a = some q ∧ q.1 = ci) (hS : S.drop n = .ref a :: S.drop (n + 1)) (k : kGo M ML mi d0 (fun cl => oCall cl mi' (n + 1) :: os cl) b (L, S, hs) r) : kGo M ML mi d0 (fun cl => oCallV cl mi' n ci nS :: os cl) b (L, S, hs) r := by
  obtain ⟨n0, h⟩ := k
  refine ⟨n0, fun m F h1 h2 d hdd => ?_⟩
  have h3 := h m F h1 h2 d hdd
  obtain ⟨q, hq, rfl⟩ := hc
  have e : ∀ cl, oCallV cl mi' n q.1 nS (L, S, hs) = oCall cl mi' (n + 1) (L, S, hs) := fun cl => by
    unfold oCallV
    dsimp only
    rw [hS]
    dsimp only
    rw [hq]
    simp
  dsimp only at h3 ⊢
  unfold kgo at h3 ⊢
  rw [kseq, e]
  rw [kseq] at h3
  exact h3
theorem g_ini {a : Nat} (hS : S.drop n = .ref a :: S.drop (n + 1)) (k : kGo M ML mi d0 (fun cl => oCall cl mi' (n + 1) :: os cl) b (L, S, hs) r) : kGo M ML mi d0 (fun cl => oCallI cl mi' n :: os cl) b (L, S, hs) r := by
  obtain ⟨n0, h⟩ := k
  refine ⟨n0, fun m F h1 h2 d hdd => ?_⟩
  have h3 := h m F h1 h2 d hdd
  have e : ∀ cl, oCallI cl mi' n (L, S, hs) = oCall cl mi' (n + 1) (L, S, hs) := fun cl => by
    unfold oCallI
    dsimp only
    rw [hS]
  dsimp only at h3 ⊢
  unfold kgo at h3 ⊢
  rw [kseq, e]
  rw [kseq] at h3
  exact h3
/-- a call of a method that leaves the heap as it is -/
theorem g_callP {τ β : Type} {f : Option τ} {K : τ → Option β} {y : β} {e : τ → Option Value} {args : List Value} {S1 : τ → List Value} (hf : ob f K = some y) (T : ∀ v, f = some v → kEv M ML mi' d' args hs (.inl (e v), hs)) (hd : d' ≤ d0) (ha : (S.take n).reverse = args) (hz : (Nat.ble n S.length && Nat.ble (ksz (S.drop n)) 8) = true) (hS : ∀ v, (e v).toList ++ S.drop n = S1 v) (k : ∀ v, K v = some y → kGo M ML mi d0 os 0 (L, S1 v, hs) r) : kGo M ML mi d0 (fun cl => oCall cl mi' n :: os cl) b (L, S, hs) r := by
  obtain ⟨v, h1, h2⟩ := ob_some hf
  exact g_callE (T v h1) hd ha hz (by rw [hS]; exact k v h2)
/-- a call of one that may write or throw -/
theorem g_callW {τ ρ : Type} {f : Option (dR τ)} {K : τ → kHS → Option (dR ρ)} {y : dR ρ} {e : τ → Option Value} {e2 : ρ → Option Value} {args : List Value} {S1 : τ → List Value} (hf : obW f K = some y) (T : ∀ q, f = some q → kEv M ML mi' d' args hs (eW e q)) (hd : d' ≤ d0) (ha : (S.take n).reverse = args) (hz : (Nat.ble n S.length && Nat.ble (ksz (S.drop n)) 8) = true) (hS : ∀ v, (e v).toList ++ S.drop n = S1 v) (k : ∀ v h1, K v h1 = some y → kGo M ML mi d0 os 0 (L, S1 v, h1) (eW e2 y)) : kGo M ML mi d0 (fun cl => oCall cl mi' n :: os cl) b (L, S, hs) (eW e2 y) := by
  rcases obW_some hf with ⟨v, h1, a1, a2⟩ | ⟨j, h1, a1, rfl⟩
  · exact g_callE (T _ a1) hd ha hz (by rw [hS]; exact k v h1 a2)
  · exact g_callX (T _ a1) hd ha hz
/-! the stack, the locals -/
theorem g_loadI {i : Nat} {x : Int32} (hk : kget L i = some (.int x)) (k : kGo M ML mi d0 os 0 (L, .int x :: S, hs) r) : kGo M ML mi d0 (fun cl => oLoadI i :: os cl) b (L, S, hs) r := g_op (by unfold oLoadI; dsimp only; rw [hk]) k
theorem g_loadL {i : Nat} {x : Int64} (hk : kget L i = some (.long x)) (k : kGo M ML mi d0 os 0 (L, .long x :: S, hs) r) : kGo M ML mi d0 (fun cl => oLoadL i :: os cl) b (L, S, hs) r := g_op (by unfold oLoadL; dsimp only; rw [hk]) k
theorem g_loadD {i : Nat} {x : UInt64} (hk : kget L i = some (.double x)) (k : kGo M ML mi d0 os 0 (L, .double x :: S, hs) r) : kGo M ML mi d0 (fun cl => oLoadD i :: os cl) b (L, S, hs) r := g_op (by unfold oLoadD; dsimp only; rw [hk]) k
theorem g_loadR {i a : Nat} (hk : kget L i = some (rv a)) (k : kGo M ML mi d0 os 0 (L, rv a :: S, hs) r) : kGo M ML mi d0 (fun cl => oLoadR i :: os cl) b (L, S, hs) r := by
  refine g_op ?_ k
  unfold oLoadR
  dsimp only
  rw [hk]
  cases a <;> rfl
theorem g_storeI {i : Nat} {x : Int32} (k : ∀ L', kget L' i = some (.int x) → kKeep i L L' → kGo M ML mi d0 os 0 (L', S, hs) r) : kGo M ML mi d0 (fun cl => oStoreI i :: os cl) b (L, .int x :: S, hs) r := g_op rfl (k _ (kget_hd _ _ _) (kKeep_1 _ _ _))
theorem g_storeL {i : Nat} {x : Int64} (k : ∀ L', kget L' i = some (.long x) → kKeep2 i L L' → kGo M ML mi d0 os 0 (L', S, hs) r) : kGo M ML mi d0 (fun cl => oStoreL i :: os cl) b (L, .long x :: S, hs) r := g_op rfl (k _ (kget_hd _ _ _) (kKeep_2 _ _ _))
theorem g_storeD {i : Nat} {x : UInt64} (k : ∀ L', kget L' i = some (.double x) → kKeep2 i L L' → kGo M ML mi d0 os 0 (L', S, hs) r) : kGo M ML mi d0 (fun cl => oStoreD i :: os cl) b (L, .double x :: S, hs) r := g_op rfl (k _ (kget_hd _ _ _) (kKeep_2 _ _ _))
theorem g_storeR {i a : Nat} (k : ∀ L', kget L' i = some (rv a) → kKeep i L L' → kGo M ML mi d0 os 0 (L', S, hs) r) : kGo M ML mi d0 (fun cl => oStoreR i :: os cl) b (L, rv a :: S, hs) r := by
  cases a with
  | zero => exact g_op rfl (k _ (kget_hd _ _ _) (kKeep_1 _ _ _))
  | succ a => exact g_op rfl (k _ (kget_hd _ _ _) (kKeep_1 _ _ _))
theorem g_iinc {i a c : Nat} {d : Int32} (hk : kget L i = some (.int (nI a))) (hd : d = nI c) (k : ∀ L', kget L' i = some (.int (nI (wadd a c))) → kKeep i L L' → kGo M ML mi d0 os 0 (L', S, hs) r) : kGo M ML mi d0 (fun cl => oIinc i d :: os cl) b (L, S, hs) r := by
  subst hd
  refine g_op (b' := 0) (fs' := (((i, .int (nI a + nI c)) :: L.filter (kf1 i)), S, hs)) ?_ ?_
  · unfold oIinc
    dsimp only
    rw [hk]
  · refine k _ ?_ (kKeep_1 _ _ _)
    rw [kget_hd, w_add]
theorem g_pushI {x : Int32} {c : Nat} (hx : x = nI c) (k : kGo M ML mi d0 os 0 (L, .int (nI c) :: S, hs) r) : kGo M ML mi d0 (fun cl => oS (gPush (.int x)) :: os cl) b (L, S, hs) r := by
  subst hx
  exact g_op rfl k
theorem g_pushL {x : Int64} {c : Nat} (hx : x = lN c) (k : kGo M ML mi d0 os 0 (L, .long (lN c) :: S, hs) r) : kGo M ML mi d0 (fun cl => oS (gPush (.long x)) :: os cl) b (L, S, hs) r := by
  subst hx
  exact g_op rfl k
theorem g_pushD {x : UInt64} (k : kGo M ML mi d0 os 0 (L, .double x :: S, hs) r) : kGo M ML mi d0 (fun cl => oS (gPush (.double x)) :: os cl) b (L, S, hs) r := g_op rfl k
theorem g_pushN (k : kGo M ML mi d0 os 0 (L, rv 0 :: S, hs) r) : kGo M ML mi d0 (fun cl => oS (gPush .null) :: os cl) b (L, S, hs) r := g_op rfl k
theorem g_gets {j : Nat} (k : kGo M ML mi d0 os 0 (L, rv (j + 1) :: S, hs) r) : kGo M ML mi d0 (fun cl => oGetS j :: os cl) b (L, S, hs) r := g_op rfl k
theorem g_bin {f : Int32 → Int32 → Int32} {x y : Int32} {c : Nat} (hf : f x y = nI c) (k : kGo M ML mi d0 os 0 (L, .int (nI c) :: S, hs) r) : kGo M ML mi d0 (fun cl => oBin f :: os cl) b (L, .int y :: .int x :: S, hs) r := by
  refine g_op ?_ k
  show some (Sum.inl (0, (L, Value.int (f x y) :: S, hs))) = _
  rw [hf]
theorem g_bin0 {f : Int32 → Int32 → Int32} {a c : Nat} {x : Int32} (h0 : weq a 0 = false) (hf : f x (nI a) = nI c) (k : kGo M ML mi d0 os 0 (L, .int (nI c) :: S, hs) r) : kGo M ML mi d0 (fun cl => oBin0 f :: os cl) b (L, .int (nI a) :: .int x :: S, hs) r := by
  refine g_op ?_ k
  unfold oBin0 oS gBin0
  dsimp only
  rw [show decide (nI a = 0) = false from (w_eq a 0).trans h0, cond_false]
  dsimp only
  rw [hf]
theorem g_binL {f : Int64 → Int64 → Int64} {x y : Int64} {c : Nat} (hf : f x y = lN c) (k : kGo M ML mi d0 os 0 (L, .long (lN c) :: S, hs) r) : kGo M ML mi d0 (fun cl => oBinL f :: os cl) b (L, .long y :: .long x :: S, hs) r := by
  refine g_op ?_ k
  show some (Sum.inl (0, (L, Value.long (f x y) :: S, hs))) = _
  rw [hf]
theorem g_binL0 {f : Int64 → Int64 → Int64} {a c : Nat} {x : Int64} (h0 : xeq a 0 = false) (hf : f x (lN a) = lN c) (k : kGo M ML mi d0 os 0 (L, .long (lN c) :: S, hs) r) : kGo M ML mi d0 (fun cl => oBinL0 f :: os cl) b (L, .long (lN a) :: .long x :: S, hs) r := by
  refine g_op ?_ k
  unfold oBinL0 oS gBinL0
  dsimp only
  rw [show decide (lN a = 0) = false from (x_eq a 0).trans h0, cond_false]
  dsimp only
  rw [hf]
theorem g_lcmp {x y : Nat} (k : kGo M ML mi d0 os 0 (L, .int (nI (xcmp x y)) :: S, hs) r) : kGo M ML mi d0 (fun cl => oS gLcmp :: os cl) b (L, .long (lN y) :: .long (lN x) :: S, hs) r := by
  refine g_op ?_ k
  show some (Sum.inl (0, (L, Value.int (lg_cmp (lN x) (lN y)) :: S, hs))) = _
  rw [x_cmp]
theorem g_i2l {x : Nat} (k : kGo M ML mi d0 os 0 (L, .long (lN (xi x)) :: S, hs) r) : kGo M ML mi d0 (fun cl => oS gI2l :: os cl) b (L, .int (nI x) :: S, hs) r := by
  refine g_op ?_ k
  show some (Sum.inl (0, (L, Value.long (nI x).toInt64 :: S, hs))) = _
  rw [x_i2l]
theorem g_l2i {x : Nat} (k : kGo M ML mi d0 os 0 (L, .int (nI x) :: S, hs) r) : kGo M ML mi d0 (fun cl => oS gL2i :: os cl) b (L, .long (lN x) :: S, hs) r := by
  refine g_op ?_ k
  show some (Sum.inl (0, (L, Value.int (lN x).toInt32 :: S, hs))) = _
  rw [x_l2i]
theorem g_i2d {x : Nat} (k : kGo M ML mi d0 os 0 (L, .double (FP.i2d (nI x)) :: S, hs) r) : kGo M ML mi d0 (fun cl => oS gI2d :: os cl) b (L, .int (nI x) :: S, hs) r := g_op rfl k
theorem g_ineg {x : Nat} (k : kGo M ML mi d0 os 0 (L, .int (nI (wneg x)) :: S, hs) r) : kGo M ML mi d0 (fun cl => oS gIneg :: os cl) b (L, .int (nI x) :: S, hs) r := by
  refine g_op ?_ k
  show some (Sum.inl (0, (L, Value.int (-nI x) :: S, hs))) = _
  rw [w_neg]
noncomputable def dddiv (x y : UInt64) : Option UInt64 := bif decide (FP.ddiv x y &&& 0x7fffffffffffffff ≤ 0x7ff0000000000000) then some (FP.ddiv x y) else none
theorem g_ddiv {β : Type} {K : UInt64 → Option β} {w : β} {x y : UInt64} (hf : ob (dddiv x y) K = some w) (k : ∀ v, K v = some w → kGo M ML mi d0 os 0 (L, .double v :: S, hs) r) : kGo M ML mi d0 (fun cl => oS gDdiv :: os cl) b (L, .double y :: .double x :: S, hs) r := by
  obtain ⟨v, h1, h2⟩ := ob_some hf
  refine g_op ?_ (k v h2)
  unfold dddiv at h1
  unfold oS gDdiv
  dsimp only
  cases hc : decide (FP.ddiv x y &&& 0x7fffffffffffffff ≤ 0x7ff0000000000000) with
  | false => rw [hc] at h1; cases h1
  | true =>
    rw [hc] at h1
    cases h1
    rfl
theorem g_dcmp {op : CmpOp} {x y : UInt64} {c : Nat} (hc : Op.cmpValue (FP.dcmp x y) op = nI c) (k : kGo M ML mi d0 os 0 (L, .int (nI c) :: S, hs) r) : kGo M ML mi d0 (fun cl => oS (gDcmp op) :: os cl) b (L, .double y :: .double x :: S, hs) r := by
  refine g_op ?_ k
  show some (Sum.inl (0, (L, Value.int (Op.cmpValue (FP.dcmp x y) op) :: S, hs))) = _
  rw [hc]
theorem g_dup {v : Value} (hv : v.category = 1) (k : kGo M ML mi d0 os 0 (L, v :: v :: S, hs) r) : kGo M ML mi d0 (fun cl => oS gDup :: os cl) b (L, v :: S, hs) r := g_op (by unfold oS gDup; dsimp only; rw [hv]; rfl) k
theorem g_pop {v : Value} (hv : v.category = 1) (k : kGo M ML mi d0 os 0 (L, S, hs) r) : kGo M ML mi d0 (fun cl => oS gPop :: os cl) b (L, v :: S, hs) r := g_op (by unfold oS gPop; dsimp only; rw [hv]; rfl) k
theorem g_dup2 {v u : Value} (hv : v.category = 1) (hu : u.category = 1) (k : kGo M ML mi d0 os 0 (L, v :: u :: v :: u :: S, hs) r) : kGo M ML mi d0 (fun cl => oS gDup2 :: os cl) b (L, v :: u :: S, hs) r := g_op (by unfold oS gDup2; dsimp only; rw [hv, hu]; rfl) k
theorem g_dupx1 {v u : Value} (hv : v.category = 1) (hu : u.category = 1) (k : kGo M ML mi d0 os 0 (L, v :: u :: v :: S, hs) r) : kGo M ML mi d0 (fun cl => oS gDupX1 :: os cl) b (L, v :: u :: S, hs) r := g_op (by unfold oS gDupX1; dsimp only; rw [hv, hu]; rfl) k
theorem g_dupx2 {v u t : Value} (hv : v.category = 1) (hu : u.category = 1) (ht : t.category = 1) (k : kGo M ML mi d0 os 0 (L, v :: u :: t :: v :: S, hs) r) : kGo M ML mi d0 (fun cl => oS gDupX2 :: os cl) b (L, v :: u :: t :: S, hs) r := g_op (by unfold oS gDupX2; dsimp only; rw [hv, hu, ht]; rfl) k
def wmax (a b : Nat) : Nat := bif wlt a b then b else a
theorem g_max {x y : Nat} (h4 : Nat.ble S.length 4 = true) (k : kGo M ML mi d0 os 0 (L, .int (nI (wmax x y)) :: S, hs) r) : kGo M ML mi d0 (fun cl => oMax true :: os cl) b (L, .int (nI y) :: .int (nI x) :: S, hs) r := by
  refine g_op ?_ k
  unfold oMax wmax
  dsimp only
  rw [h4, w_lt]
  cases wlt x y <;> rfl
def wmin (a b : Nat) : Nat := bif wlt b a then b else a
theorem g_min {x y : Nat} (h4 : Nat.ble S.length 4 = true) (k : kGo M ML mi d0 os 0 (L, .int (nI (wmin x y)) :: S, hs) r) : kGo M ML mi d0 (fun cl => oMin :: os cl) b (L, .int (nI y) :: .int (nI x) :: S, hs) r := by
  refine g_op ?_ k
  unfold oMin wmin
  dsimp only
  rw [h4, w_lt]
  cases wlt y x <;> rfl
/-! the ends of blocks -/
theorem g_goto (k : kRn M ML mi d0 b' (L, S, hs) r) : kGo M ML mi d0 (fun _ => [tGo b']) b (L, S, hs) r := g_jump rfl k
theorem g_if {β : Type} {f : Int32 → Bool} {x : Int32} {c : Bool} {b1 b2 : Nat} {X Y : Option β} {y : β} (hf : (bif c then X else Y) = some y) (hc : f x = c) (k1 : c = true → X = some y → kRn M ML mi d0 b1 (L, S, hs) r) (k2 : c = false → Y = some y → kRn M ML mi d0 b2 (L, S, hs) r) : kGo M ML mi d0 (fun _ => [tIf f b1 b2]) b (L, .int x :: S, hs) r := by
  cases c with
  | true => exact g_jump (b' := b1) (by unfold tIf; dsimp only; rw [hc]; rfl) (k1 rfl hf)
  | false => exact g_jump (b' := b2) (by unfold tIf; dsimp only; rw [hc]; rfl) (k2 rfl hf)
theorem g_cmp {β : Type} {f : Int32 → Int32 → Bool} {x z : Int32} {c : Bool} {b1 b2 : Nat} {X Y : Option β} {y : β} (hf : (bif c then X else Y) = some y) (hc : f x z = c) (k1 : c = true → X = some y → kRn M ML mi d0 b1 (L, S, hs) r) (k2 : c = false → Y = some y → kRn M ML mi d0 b2 (L, S, hs) r) : kGo M ML mi d0 (fun _ => [tCmp f b1 b2]) b (L, .int z :: .int x :: S, hs) r := by
  cases c with
  | true => exact g_jump (b' := b1) (by unfold tCmp; dsimp only; rw [hc]; rfl) (k1 rfl hf)
  | false => exact g_jump (b' := b2) (by unfold tCmp; dsimp only; rw [hc]; rfl) (k2 rfl hf)
theorem g_null {β : Type} {a : Nat} {b1 b2 : Nat} {X Y : Option β} {y : β} (hf : (bif Nat.beq a 0 then X else Y) = some y) (k1 : a = 0 → X = some y → kRn M ML mi d0 b1 (L, S, hs) r) (k2 : a ≠ 0 → Y = some y → kRn M ML mi d0 b2 (L, S, hs) r) : kGo M ML mi d0 (fun _ => [tNull b1 b2]) b (L, rv a :: S, hs) r := by
  cases a with
  | zero => exact g_jump (b' := b1) rfl (k1 rfl hf)
  | succ a => exact g_jump (b' := b2) rfl (k2 (by omega) hf)
theorem w_ne (a c : Nat) : (!decide (nI a = nI c)) = !weq a c := by rw [w_eq]
theorem w_eqI {x c : Nat} (h : weq x c = true) (hc : c < 2147483648) : (nI x).toInt = (c : Int) := by
  have h2 : x % 4294967296 = c % 4294967296 := Nat.eq_of_beq_eq_true h
  rw [nI_int, if_pos (by omega)]
  omega
theorem g_tabH {x c b1 : Nat} {lo : Int} {bs : List Nat} {bd : Nat} (h : weq x c = true) (hc : c < 2147483648) (hb : (bif decide ((c : Int) < lo) then bd else (bs[((c : Int) - lo).toNat]?).getD bd) = b1) (k : kRn M ML mi d0 b1 (L, S, hs) r) : kGo M ML mi d0 (fun _ => [tTab lo bs bd]) b (L, .int (nI x) :: S, hs) r := by
  refine g_jump (b' := b1) ?_ k
  unfold tTab
  dsimp only
  rw [w_eqI h hc, hb]
theorem g_tabD {x l0 : Nat} {lo : Int} {bs : List Nat} {bd : Nat} (h : ∀ j, j < bs.length → weq x (l0 + j) = false) (hlo : lo = (l0 : Int)) (hl : l0 + bs.length ≤ 2147483648) (k : kRn M ML mi d0 bd (L, S, hs) r) : kGo M ML mi d0 (fun _ => [tTab lo bs bd]) b (L, .int (nI x) :: S, hs) r := by
  refine g_jump (b' := bd) ?_ k
  unfold tTab
  dsimp only
  subst hlo
  by_cases h1 : (nI x).toInt < (l0 : Int)
  · rw [decide_eq_true h1]; rfl
  · rw [decide_eq_false h1, cond_false]
    by_cases h2 : ((nI x).toInt - (l0 : Int)).toNat < bs.length
    · have h3 := h _ h2
      have h4 : weq x (l0 + ((nI x).toInt - (l0 : Int)).toNat) = true := by
        rw [← w_eq]
        refine decide_eq_true (Int32.toInt_inj.mp ?_)
        rw [nI_int (l0 + _), if_pos (by omega)]
        omega
      rw [h3] at h4
      cases h4
    · rw [List.getElem?_eq_none (by omega)]
      rfl
theorem g_lookH {x c b1 : Nat} {ks : List (Int × Nat)} {bd : Nat} (h : weq x c = true) (hc : c < 2147483648) (hb : kfind ks bd (c : Int) = b1) (k : kRn M ML mi d0 b1 (L, S, hs) r) : kGo M ML mi d0 (fun _ => [tLook ks bd]) b (L, .int (nI x) :: S, hs) r := by
  refine g_jump (b' := b1) ?_ k
  unfold tLook
  dsimp only
  rw [w_eqI h hc, hb]
/-! returns -/
theorem g_iret {e v : Nat} (hf : some e = some v) : kGo M ML mi d0 (fun _ => [tIret]) b (L, [.int (nI e)], hs) (.inl (eI v), hs) := by
  cases hf
  exact g_fin rfl
theorem g_aret {e v : Nat} (hf : some e = some v) : kGo M ML mi d0 (fun _ => [tAret]) b (L, [rv e], hs) (.inl (eA v), hs) := by
  cases hf
  refine g_fin ?_
  cases e <;> rfl
theorem g_lret {e v : Nat} (hf : some e = some v) : kGo M ML mi d0 (fun _ => [tLret]) b (L, [.long (lN e)], hs) (.inl (eL v), hs) := by
  cases hf
  exact g_fin rfl
theorem g_dret {e v : UInt64} (hf : some e = some v) : kGo M ML mi d0 (fun _ => [tDret]) b (L, [.double e], hs) (.inl (eD v), hs) := by
  cases hf
  exact g_fin rfl
theorem g_vret {v : Unit} (hf : some () = some v) : kGo M ML mi d0 (fun _ => [tVret]) b (L, [], hs) (.inl (eU v), hs) := g_fin rfl
noncomputable def dz (e : Nat) : Option Nat := bif Nat.ble e 1 then some e else none
theorem dz_spec {e v : Nat} (h : dz e = some v) : e = v ∧ (nI e == 0 || nI e == 1) = true := by
  unfold dz at h
  cases hc : Nat.ble e 1 with
  | false => rw [hc] at h; cases h
  | true =>
    rw [hc] at h
    cases h
    refine ⟨rfl, ?_⟩
    have := Nat.le_of_ble_eq_true hc
    rcases (show e = 0 ∨ e = 1 by omega) with rfl | rfl <;> rfl
theorem g_zret {e v : Nat} (hf : dz e = some v) : kGo M ML mi d0 (fun _ => [tZret]) b (L, [.int (nI e)], hs) (.inl (eI v), hs) := by
  obtain ⟨rfl, h⟩ := dz_spec hf
  refine g_fin ?_
  unfold tZret
  dsimp only
  rw [h]
  rfl
theorem g_iretW {e : Nat} {y : dR Nat} (hf : some (.inl e, hs) = some y) : kGo M ML mi d0 (fun _ => [tIret]) b (L, [.int (nI e)], hs) (eW eI y) := by
  cases hf
  exact g_fin rfl
theorem g_aretW {e : Nat} {y : dR Nat} (hf : some (.inl e, hs) = some y) : kGo M ML mi d0 (fun _ => [tAret]) b (L, [rv e], hs) (eW eA y) := by
  cases hf
  refine g_fin ?_
  cases e <;> rfl
theorem g_lretW {e : Nat} {y : dR Nat} (hf : some (.inl e, hs) = some y) : kGo M ML mi d0 (fun _ => [tLret]) b (L, [.long (lN e)], hs) (eW eL y) := by
  cases hf
  exact g_fin rfl
theorem g_dretW {e : UInt64} {y : dR UInt64} (hf : some (.inl e, hs) = some y) : kGo M ML mi d0 (fun _ => [tDret]) b (L, [.double e], hs) (eW eD y) := by
  cases hf
  exact g_fin rfl
theorem g_vretW {y : dR Unit} (hf : some (.inl (), hs) = some y) : kGo M ML mi d0 (fun _ => [tVret]) b (L, [], hs) (eW eU y) := by
  cases hf
  exact g_fin rfl
theorem g_zretW {e : Nat} {y : dR Nat} (hf : ob (dz e) (fun v => some (.inl v, hs)) = some y) : kGo M ML mi d0 (fun _ => [tZret]) b (L, [.int (nI e)], hs) (eW eI y) := by
  obtain ⟨v, h1, h2⟩ := ob_some hf
  obtain ⟨rfl, h⟩ := dz_spec h1
  cases h2
  refine g_fin ?_
  unfold tZret
  dsimp only
  rw [h]
  rfl
theorem g_throwW {τ : Type} {e : τ → Option Value} {j : Nat} {y : dR τ} (hf : some (.inr j, (hs.1, hs.2.1 + 1, hs.2.2 + 6)) = some y) (h4 : Nat.ble S.length 4 = true) : kGo M ML mi d0 (fun _ => [tThrow j]) b (L, S, hs) (eW e y) := by
  cases hf
  refine g_fin ?_
  unfold tThrow
  dsimp only
  rw [h4]
  rfl
/-! the heap -/
noncomputable def dcell (n : Nat) (h : List kCel) (a : Nat) : Option kCel := bif Nat.beq a 0 then none else kcell n h (Nat.pred a)
theorem dcell_some {n a : Nat} {h : List kCel} {q : kCel} (hq : dcell n h a = some q) : ∃ k, a = k + 1 ∧ kcell n h k = some q := by
  cases a with
  | zero => cases hq
  | succ k => exact ⟨k, rfl, hq⟩
def vI (v : Value) : Option Nat := match v with
  | .int x => some (wof x)
  | _ => none
def vR (v : Value) : Option Nat := match v with
  | .ref k => some (k + 1)
  | .null => some 0
  | _ => none
def vL (v : Value) : Option Nat := match v with
  | .long x => some (xof x)
  | _ => none
def vD (v : Value) : Option UInt64 := match v with
  | .double x => some x
  | _ => none
theorem vI_some {v : Value} {x : Nat} (h : vI v = some x) : v = .int (nI x) := by
  cases v <;> cases h
  rw [nI_wof]
theorem vR_some {v : Value} {x : Nat} (h : vR v = some x) : v = rv x := by
  cases v <;> cases h <;> rfl
theorem vL_some {v : Value} {x : Nat} (h : vL v = some x) : v = .long (lN x) := by
  cases v <;> cases h
  rw [lN_xof]
theorem vD_some {v : Value} {x : UInt64} (h : vD v = some x) : v = .double x := by
  cases v <;> cases h
  rfl
noncomputable def dnn (a : Nat) : Option Unit := bif Nat.beq a 0 then none else some ()
theorem dnn_some {a : Nat} (h : dnn a = some ()) : ∃ k, a = k + 1 := by
  cases a with
  | zero => cases h
  | succ k => exact ⟨k, rfl⟩
noncomputable def dtag (n ci : Nat) (h : List kCel) (a : Nat) : Option Unit := ob (dcell n h a) fun q => bif Nat.beq q.1 ci then some () else none
theorem dtag_some {n ci a : Nat} {h : List kCel} (hq : dtag n ci h a = some ()) : ∃ k q, a = k + 1 ∧ kcell n h k = some q ∧ q.1 = ci := by
  obtain ⟨q, h1, h2⟩ := ob_some hq
  obtain ⟨k, rfl, h3⟩ := dcell_some h1
  refine ⟨k, q, rfl, h3, ?_⟩
  cases hc : Nat.beq q.1 ci with
  | false => rw [hc] at h2; cases h2
  | true => exact Nat.eq_of_beq_eq_true hc
noncomputable def dfld (n ci k : Nat) (h : List kCel) (a : Nat) : Option Value := ob (dcell n h a) fun q => bif Nat.beq q.1 ci then q.2[k]? else none
theorem dfld_op {n ci j a : Nat} {v : Value} (h : dfld n ci j hs.1 a = some v) : oGet n ci j (L, rv a :: S, hs) = some (.inl (0, (L, v :: S, hs))) := by
  obtain ⟨q, h1, h2⟩ := ob_some h
  obtain ⟨k, rfl, h3⟩ := dcell_some h1
  cases hc : Nat.beq q.1 ci with
  | false => rw [hc] at h2; cases h2
  | true =>
    rw [hc] at h2
    unfold oGet
    show (match kcell n hs.1 k with | some q => _ | none => _) = _
    rw [h3]
    dsimp only
    rw [hc, cond_true, show q.2[j]? = some v from h2]
noncomputable def dgI (n ci k : Nat) (h : List kCel) (a : Nat) : Option Nat := ob (dfld n ci k h a) vI
noncomputable def dgR (n ci k : Nat) (h : List kCel) (a : Nat) : Option Nat := ob (dfld n ci k h a) vR
noncomputable def dgL (n ci k : Nat) (h : List kCel) (a : Nat) : Option Nat := ob (dfld n ci k h a) vL
theorem g_getI {β : Type} {K : Nat → Option β} {y : β} {nS ci j a : Nat} (hf : ob (dgI nS ci j hs.1 a) K = some y) (k : ∀ x, K x = some y → kGo M ML mi d0 os 0 (L, .int (nI x) :: S, hs) r) : kGo M ML mi d0 (fun cl => oGet nS ci j :: os cl) b (L, rv a :: S, hs) r := by
  obtain ⟨x, h1, h2⟩ := ob_some hf
  obtain ⟨v, h3, h4⟩ := ob_some h1
  refine g_op (dfld_op h3) ?_
  rw [vI_some h4]
  exact k x h2
theorem g_getR {β : Type} {K : Nat → Option β} {y : β} {nS ci j a : Nat} (hf : ob (dgR nS ci j hs.1 a) K = some y) (k : ∀ x, K x = some y → kGo M ML mi d0 os 0 (L, rv x :: S, hs) r) : kGo M ML mi d0 (fun cl => oGet nS ci j :: os cl) b (L, rv a :: S, hs) r := by
  obtain ⟨x, h1, h2⟩ := ob_some hf
  obtain ⟨v, h3, h4⟩ := ob_some h1
  refine g_op (dfld_op h3) ?_
  rw [vR_some h4]
  exact k x h2
theorem g_getL {β : Type} {K : Nat → Option β} {y : β} {nS ci j a : Nat} (hf : ob (dgL nS ci j hs.1 a) K = some y) (k : ∀ x, K x = some y → kGo M ML mi d0 os 0 (L, .long (lN x) :: S, hs) r) : kGo M ML mi d0 (fun cl => oGet nS ci j :: os cl) b (L, rv a :: S, hs) r := by
  obtain ⟨x, h1, h2⟩ := ob_some hf
  obtain ⟨v, h3, h4⟩ := ob_some h1
  refine g_op (dfld_op h3) ?_
  rw [vL_some h4]
  exact k x h2
noncomputable def dput (n ci k : Nat) (ty : FieldType) (hs : kHS) (a : Nat) (v : Value) : Option kHS := ob (dcell n hs.1 a) fun q => bif Nat.beq q.1 ci && (Nat.blt k q.2.length && kfit ty v) then some (hs.1.set (Nat.pred a - n) (q.1, q.2.set k v), hs.2) else none
theorem g_put {β : Type} {K : kHS → Option β} {y : β} {nS ci j a : Nat} {ty : FieldType} {v : Value} (hf : ob (dput nS ci j ty hs a v) K = some y) (k : ∀ h1, K h1 = some y → kGo M ML mi d0 os 0 (L, S, h1) r) : kGo M ML mi d0 (fun cl => oPut nS ci j ty :: os cl) b (L, v :: rv a :: S, hs) r := by
  obtain ⟨h1, e1, e2⟩ := ob_some hf
  obtain ⟨q, e3, e4⟩ := ob_some e1
  obtain ⟨c, rfl, e5⟩ := dcell_some e3
  refine g_op ?_ (k h1 e2)
  cases hc : (Nat.beq q.1 ci && (Nat.blt j q.2.length && kfit ty v)) with
  | false => rw [hc] at e4; cases e4
  | true =>
    rw [hc] at e4
    cases e4
    unfold oPut
    show (match kcell nS hs.1 c with | some q => _ | none => _) = _
    rw [e5]
    dsimp only
    rw [hc]
    rfl
noncomputable def didx {τ : Type} (t : List τ) (i : Nat) : Option τ := bif wpos i then t[Nat.mod i 4294967296]? else none
theorem clamp_w {i : Nat} (h : wpos i = true) : (nI i).toNatClampNeg = Nat.mod i 4294967296 := by
  have h1 := wpos_iff.mp h
  show (nI i).toInt.toNat = i % 4294967296
  rw [nI_int, if_pos h1]
  omega
theorem neg_w (i : Nat) : decide (nI i < 0) = !wpos i := by
  rw [show decide (nI i < 0) = decide (nI i < nI 0) from rfl, w_lt, Bool.eq_iff_iff]
  unfold wlt
  rw [Nat.ble_eq, Bool.not_eq_true', wpos_no]
  show (i + 2147483648) % 4294967296 + 1 ≤ (0 + 2147483648) % 4294967296 ↔ _
  omega
theorem kidx_w {τ : Type} (t : List τ) (i : Nat) : kidx t (nI i) = didx t i := by
  unfold kidx didx
  rw [neg_w]
  cases h : wpos i with
  | true => rw [clamp_w h]; rfl
  | false => rfl
theorem didx_pos {τ : Type} {t : List τ} {i : Nat} {x : τ} (h : didx t i = some x) : wpos i = true := by
  unfold didx at h
  cases hc : wpos i with
  | true => rfl
  | false => rw [hc] at h; cases h
noncomputable def dald {τ : Type} (n tag : Nat) (f : Value → Option τ) (h : List kCel) (a i : Nat) : Option τ := ob (dcell n h a) fun q => bif Nat.beq q.1 tag then ob (didx q.2 i) f else none
theorem dald_some {τ : Type} {nS tag a i : Nat} {f : Value → Option τ} {h : List kCel} {x : τ} (hq : dald nS tag f h a i = some x) : ∃ k q v, a = k + 1 ∧ kcell nS h k = some q ∧ Nat.beq q.1 tag = true ∧ kidx q.2 (nI i) = some v ∧ f v = some x := by
  obtain ⟨q, e1, e2⟩ := ob_some hq
  obtain ⟨k, rfl, e3⟩ := dcell_some e1
  cases hc : Nat.beq q.1 tag with
  | false => rw [hc] at e2; cases e2
  | true =>
    rw [hc] at e2
    obtain ⟨v, e4, e5⟩ := ob_some (show ob (didx q.2 i) f = some x from e2)
    exact ⟨k, q, v, rfl, e3, hc, by rw [kidx_w]; exact e4, e5⟩
theorem g_zald {β : Type} {K : Nat → Option β} {y : β} {nS a i : Nat} (hf : ob (dald nS 103 vI hs.1 a i) K = some y) (k : ∀ x, K x = some y → kGo M ML mi d0 os 0 (L, .int (nI x) :: S, hs) r) : kGo M ML mi d0 (fun cl => oZald nS :: os cl) b (L, .int (nI i) :: rv a :: S, hs) r := by
  obtain ⟨x, h1, h2⟩ := ob_some hf
  obtain ⟨c, q, v, rfl, e3, hc, e4, e5⟩ := dald_some h1
  rw [vI_some e5] at e4
  refine g_op ?_ (k x h2)
  unfold oZald
  show (match kcell nS hs.1 c with | some q => _ | none => _) = _
  rw [e3]
  dsimp only
  rw [hc, cond_true, e4]
theorem g_lald {β : Type} {K : Nat → Option β} {y : β} {nS a i : Nat} (hf : ob (dald nS 101 vL hs.1 a i) K = some y) (k : ∀ x, K x = some y → kGo M ML mi d0 os 0 (L, .long (lN x) :: S, hs) r) : kGo M ML mi d0 (fun cl => oLald nS :: os cl) b (L, .int (nI i) :: rv a :: S, hs) r := by
  obtain ⟨x, h1, h2⟩ := ob_some hf
  obtain ⟨c, q, v, rfl, e3, hc, e4, e5⟩ := dald_some h1
  rw [vL_some e5] at e4
  refine g_op ?_ (k x h2)
  unfold oLald
  show (match kcell nS hs.1 c with | some q => _ | none => _) = _
  rw [e3]
  dsimp only
  rw [hc, cond_true, e4]
theorem g_dald {β : Type} {K : UInt64 → Option β} {y : β} {nS a i : Nat} (hf : ob (dald nS 102 vD hs.1 a i) K = some y) (k : ∀ x, K x = some y → kGo M ML mi d0 os 0 (L, .double x :: S, hs) r) : kGo M ML mi d0 (fun cl => oDald nS :: os cl) b (L, .int (nI i) :: rv a :: S, hs) r := by
  obtain ⟨x, h1, h2⟩ := ob_some hf
  obtain ⟨c, q, v, rfl, e3, hc, e4, e5⟩ := dald_some h1
  rw [vD_some e5] at e4
  refine g_op ?_ (k x h2)
  unfold oDald
  show (match kcell nS hs.1 c with | some q => _ | none => _) = _
  rw [e3]
  dsimp only
  rw [hc, cond_true, e4]
noncomputable def daldA (n : Nat) (h : List kCel) (a i : Nat) : Option Nat := ob (dcell n h a) fun q => bif Nat.ble 104 q.1 then ob (didx q.2 i) vR else none
theorem g_aald {β : Type} {K : Nat → Option β} {y : β} {nS a i : Nat} (hf : ob (daldA nS hs.1 a i) K = some y) (k : ∀ x, K x = some y → kGo M ML mi d0 os 0 (L, rv x :: S, hs) r) : kGo M ML mi d0 (fun cl => oAald nS :: os cl) b (L, .int (nI i) :: rv a :: S, hs) r := by
  obtain ⟨x, h1, h2⟩ := ob_some hf
  obtain ⟨q, e1, e2⟩ := ob_some h1
  obtain ⟨c, rfl, e3⟩ := dcell_some e1
  cases hc : Nat.ble 104 q.1 with
  | false => rw [hc] at e2; cases e2
  | true =>
    rw [hc] at e2
    obtain ⟨v, e4, e5⟩ := ob_some (show ob (didx q.2 i) vR = some x from e2)
    rw [vR_some e5] at e4
    refine g_op ?_ (k x h2)
    unfold oAald
    show (match kcell nS hs.1 c with | some q => _ | none => _) = _
    rw [e3]
    dsimp only
    rw [hc, cond_true, kidx_w, e4]
noncomputable def daldI (tb : List (List Int32)) (h : List kCel) (a i : Nat) : Option Nat := bif Nat.beq a 0 then none else @Option.rec (List Int32) (fun _ => Option Nat) (ob (kcell tb.length h (Nat.pred a)) fun q => bif Nat.beq q.1 100 then ob (didx q.2 i) vI else none) (fun t => ob (didx t i) fun x => some (wof x)) tb[Nat.pred a]?
theorem g_iald {β : Type} {tb : List (List Int32)} {K : Nat → Option β} {y : β} {a i : Nat} (hf : ob (daldI tb hs.1 a i) K = some y) (k : ∀ x, K x = some y → kGo M ML mi d0 os 0 (L, .int (nI x) :: S, hs) r) : kGo M ML mi d0 (fun cl => oIald tb :: os cl) b (L, .int (nI i) :: rv a :: S, hs) r := by
  obtain ⟨x, h1, h2⟩ := ob_some hf
  cases a with
  | zero => cases h1
  | succ a =>
    refine g_op ?_ (k x h2)
    unfold oIald
    show (match tb[a]? with | some t => _ | none => _) = _
    have h3 : (@Option.rec (List Int32) (fun _ => Option Nat) (ob (kcell tb.length hs.1 a) fun q => bif Nat.beq q.1 100 then ob (didx q.2 i) vI else none) (fun t => ob (didx t i) fun x => some (wof x)) tb[a]?) = some x := h1
    cases ht : tb[a]? with
    | some t =>
      rw [ht] at h3
      obtain ⟨w, e1, e2⟩ := ob_some (show ob (didx t i) (fun x => some (wof x)) = some x from h3)
      cases e2
      dsimp only
      rw [kidx_w, e1, nI_wof]
    | none =>
      rw [ht] at h3
      obtain ⟨q, e1, e2⟩ := ob_some (show ob (kcell tb.length hs.1 a) (fun q => bif Nat.beq q.1 100 then ob (didx q.2 i) vI else none) = some x from h3)
      dsimp only
      rw [show (a + 1).pred = a from rfl, e1]
      dsimp only
      cases hc : Nat.beq q.1 100 with
      | false => rw [hc] at e2; cases e2
      | true =>
        rw [hc] at e2
        obtain ⟨v, e4, e5⟩ := ob_some (show ob (didx q.2 i) vI = some x from e2)
        rw [vI_some e5] at e4
        rw [cond_true, kidx_w, e4]
noncomputable def dast (n tag : Nat) (hs : kHS) (a i : Nat) (v : Value) : Option kHS := ob (dcell n hs.1 a) fun q => bif Nat.beq q.1 tag then ob (didx q.2 i) (fun _ => some (hs.1.set (Nat.pred a - n) (q.1, q.2.set (Nat.mod i 4294967296) v), hs.2)) else none
theorem dast_some {nS tag a i : Nat} {v : Value} {h1 : kHS} (hq : dast nS tag hs a i v = some h1) : ∃ k q u, a = k + 1 ∧ kcell nS hs.1 k = some q ∧ Nat.beq q.1 tag = true ∧ kidx q.2 (nI i) = some u ∧ h1 = (hs.1.set (k - nS) (q.1, q.2.set (nI i).toNatClampNeg v), hs.2) := by
  obtain ⟨q, e1, e2⟩ := ob_some hq
  obtain ⟨k, rfl, e3⟩ := dcell_some e1
  cases hc : Nat.beq q.1 tag with
  | false => rw [hc] at e2; cases e2
  | true =>
    rw [hc] at e2
    obtain ⟨u, e4, e5⟩ := ob_some (show ob (didx q.2 i) _ = some h1 from e2)
    refine ⟨k, q, u, rfl, e3, hc, by rw [kidx_w]; exact e4, ?_⟩
    rw [clamp_w (didx_pos e4)]
    exact (Option.some.inj e5).symm
theorem g_iast {β : Type} {K : kHS → Option β} {y : β} {nS a i : Nat} {x : Int32} (hf : ob (dast nS 100 hs a i (.int x)) K = some y) (k : ∀ h1, K h1 = some y → kGo M ML mi d0 os 0 (L, S, h1) r) : kGo M ML mi d0 (fun cl => oIast nS :: os cl) b (L, .int x :: .int (nI i) :: rv a :: S, hs) r := by
  obtain ⟨h1, e1, e2⟩ := ob_some hf
  obtain ⟨c, q, u, rfl, e3, hc, e4, e5⟩ := dast_some e1
  refine g_op ?_ (k h1 e2)
  unfold oIast
  show (match kcell nS hs.1 c with | some q => _ | none => _) = _
  rw [e3]
  dsimp only
  rw [hc, cond_true, e4, e5]
  rfl
theorem g_last {β : Type} {K : kHS → Option β} {y : β} {nS a i : Nat} {x : Int64} (hf : ob (dast nS 101 hs a i (.long x)) K = some y) (k : ∀ h1, K h1 = some y → kGo M ML mi d0 os 0 (L, S, h1) r) : kGo M ML mi d0 (fun cl => oLast nS :: os cl) b (L, .long x :: .int (nI i) :: rv a :: S, hs) r := by
  obtain ⟨h1, e1, e2⟩ := ob_some hf
  obtain ⟨c, q, u, rfl, e3, hc, e4, e5⟩ := dast_some e1
  refine g_op ?_ (k h1 e2)
  unfold oLast
  show (match kcell nS hs.1 c with | some q => _ | none => _) = _
  rw [e3]
  dsimp only
  rw [hc, cond_true, e4, e5]
  rfl
theorem g_dast {β : Type} {K : kHS → Option β} {y : β} {nS a i : Nat} {x : UInt64} (hf : ob (dast nS 102 hs a i (.double x)) K = some y) (k : ∀ h1, K h1 = some y → kGo M ML mi d0 os 0 (L, S, h1) r) : kGo M ML mi d0 (fun cl => oDast nS :: os cl) b (L, .double x :: .int (nI i) :: rv a :: S, hs) r := by
  obtain ⟨h1, e1, e2⟩ := ob_some hf
  obtain ⟨c, q, u, rfl, e3, hc, e4, e5⟩ := dast_some e1
  refine g_op ?_ (k h1 e2)
  unfold oDast
  show (match kcell nS hs.1 c with | some q => _ | none => _) = _
  rw [e3]
  dsimp only
  rw [hc, cond_true, e4, e5]
  rfl
theorem g_zast {β : Type} {K : kHS → Option β} {y : β} {nS a i e : Nat} (hf : ob (dz e) (fun x => ob (dast nS 103 hs a i (.int (nI x))) K) = some y) (k : ∀ h1, K h1 = some y → kGo M ML mi d0 os 0 (L, S, h1) r) : kGo M ML mi d0 (fun cl => oZast nS :: os cl) b (L, .int (nI e) :: .int (nI i) :: rv a :: S, hs) r := by
  obtain ⟨v, z1, hf⟩ := ob_some hf
  obtain ⟨rfl, z2⟩ := dz_spec z1
  obtain ⟨h1, e1, e2⟩ := ob_some hf
  obtain ⟨c, q, u, rfl, e3, hc, e4, e5⟩ := dast_some e1
  refine g_op ?_ (k h1 e2)
  unfold oZast
  show (match kcell nS hs.1 c with | some q => _ | none => _) = _
  rw [e3]
  dsimp only
  rw [hc, z2, Bool.and_self, cond_true, e4, e5]
  rfl
noncomputable def dastA (n t ci : Nat) (hs : kHS) (a i v : Nat) : Option kHS := ob (dcell n hs.1 a) fun q => ob (dcell n hs.1 v) fun u => bif Nat.beq q.1 t && Nat.beq u.1 ci then ob (didx q.2 i) (fun _ => some (hs.1.set (Nat.pred a - n) (q.1, q.2.set (Nat.mod i 4294967296) (rv v)), hs.2)) else none
theorem g_aast {β : Type} {K : kHS → Option β} {y : β} {nS t ci a i v : Nat} (hf : ob (dastA nS t ci hs a i v) K = some y) (k : ∀ h1, K h1 = some y → kGo M ML mi d0 os 0 (L, S, h1) r) : kGo M ML mi d0 (fun cl => oAast nS t ci :: os cl) b (L, rv v :: .int (nI i) :: rv a :: S, hs) r := by
  obtain ⟨h1, e1, e2⟩ := ob_some hf
  obtain ⟨q, e3, e4⟩ := ob_some e1
  obtain ⟨c, rfl, e5⟩ := dcell_some e3
  obtain ⟨u, e6, e7⟩ := ob_some e4
  obtain ⟨w, rfl, e8⟩ := dcell_some e6
  refine g_op ?_ (k h1 e2)
  cases hc : (Nat.beq q.1 t && Nat.beq u.1 ci) with
  | false => rw [hc] at e7; cases e7
  | true =>
    rw [hc] at e7
    obtain ⟨z, z1, z2⟩ := ob_some (show ob (didx q.2 i) _ = some h1 from e7)
    unfold oAast
    show (match kcell nS hs.1 c, kcell nS hs.1 w with | some q, some u => _ | _, _ => _) = _
    rw [e5, e8]
    dsimp only
    rw [hc, cond_true, kidx_w, z1, clamp_w (didx_pos z1)]
    cases z2
    rfl
noncomputable def dalen (tb : List (List Int32)) (h : List kCel) (a : Nat) : Option Nat := bif Nat.beq a 0 then none else @Option.rec (List Int32) (fun _ => Option Nat) (ob (kcell tb.length h (Nat.pred a)) fun q => bif Nat.ble 100 q.1 then some q.2.length else none) (fun t => bif Nat.ble (Nat.pred a) 8 then some t.length else none) tb[Nat.pred a]?
theorem g_alen {β : Type} {tb : List (List Int32)} {K : Nat → Option β} {y : β} {a : Nat} (hf : ob (dalen tb hs.1 a) K = some y) (k : ∀ x, K x = some y → kGo M ML mi d0 os 0 (L, .int (nI x) :: S, hs) r) : kGo M ML mi d0 (fun cl => oAlen tb :: os cl) b (L, rv a :: S, hs) r := by
  obtain ⟨x, h1, h2⟩ := ob_some hf
  cases a with
  | zero => cases h1
  | succ a =>
    refine g_op ?_ (k x h2)
    unfold oAlen
    show (match tb[a]? with | some t => _ | none => _) = _
    have h3 : (@Option.rec (List Int32) (fun _ => Option Nat) (ob (kcell tb.length hs.1 a) fun q => bif Nat.ble 100 q.1 then some q.2.length else none) (fun t => bif Nat.ble a 8 then some t.length else none) tb[a]?) = some x := h1
    cases ht : tb[a]? with
    | some t =>
      rw [ht] at h3
      dsimp only at h3 ⊢
      cases hg8 : Nat.ble a 8 with
      | false => rw [hg8] at h3; cases h3
      | true =>
        rw [hg8] at h3
        cases h3
        rw [show (a + 1).pred = a from rfl, hg8]
        rfl
    | none =>
      rw [ht] at h3
      obtain ⟨q, e1, e2⟩ := ob_some (show ob (kcell tb.length hs.1 a) (fun q => bif Nat.ble 100 q.1 then some q.2.length else none) = some x from h3)
      dsimp only
      rw [show (a + 1).pred = a from rfl, e1]
      dsimp only
      cases hc : Nat.ble 100 q.1 with
      | false => rw [hc] at e2; cases e2
      | true =>
        rw [hc] at e2
        cases e2
        rfl
noncomputable def dnewa (n tag i : Nat) (hs : kHS) : Option (Nat × kHS) := bif wpos i && Nat.ble (Nat.mod i 4294967296) 1000000 then some (n + hs.1.length + 1, (hs.1 ++ [(tag, List.replicate (Nat.mod i 4294967296) (kdef tag))], hs.2.1 + 1, hs.2.2 + Nat.mod i 4294967296)) else none
theorem dnewa_op {nS tag i : Nat} {q : Nat × kHS} (h : dnewa nS tag i hs = some q) : oNewa nS tag (L, .int (nI i) :: S, hs) = some (.inl (0, (L, rv q.1 :: S, q.2))) := by
  unfold dnewa at h
  cases hc : (wpos i && Nat.ble (Nat.mod i 4294967296) 1000000) with
  | false => rw [hc] at h; cases h
  | true =>
    rw [hc] at h
    cases h
    simp only [Bool.and_eq_true] at hc
    unfold oNewa
    dsimp only
    rw [neg_w, hc.1, clamp_w hc.1]
    have h2 := Nat.le_of_ble_eq_true hc.2
    have h3 : Nat.blt 1000000 (Nat.mod i 4294967296) = false := by
      cases h9 : Nat.blt 1000000 (Nat.mod i 4294967296) with
      | false => rfl
      | true =>
        have h10 : 1000000 + 1 ≤ Nat.mod i 4294967296 := Nat.le_of_ble_eq_true h9
        omega
    rw [h3]
    rfl
theorem g_newa {β : Type} {K : Nat × kHS → Option β} {y : β} {nS tag i : Nat} (hf : ob (dnewa nS tag i hs) K = some y) (k : ∀ q, K q = some y → kGo M ML mi d0 os 0 (L, rv q.1 :: S, q.2) r) : kGo M ML mi d0 (fun cl => oNewa nS tag :: os cl) b (L, .int (nI i) :: S, hs) r := by
  obtain ⟨q, h1, h2⟩ := ob_some hf
  exact g_op (dnewa_op h1) (k q h2)
theorem g_newq {β : Type} {K : Nat × kHS → Option β} {y : β} {nS tag i : Nat} (hf : ob (dnewa nS tag i hs) K = some y) (k : ∀ q, K q = some y → kGo M ML mi d0 os 0 (L, rv q.1 :: S, q.2) r) : kGo M ML mi d0 (fun cl => oNewq nS tag :: os cl) b (L, .int (nI i) :: S, hs) r := g_newa hf k
noncomputable def dmna (n i j : Nat) (hs : kHS) : Option (Nat × kHS) := bif (wpos i && wpos j) && (Nat.ble (Nat.mod i 4294967296) 1000 && Nat.ble (Nat.mod j 4294967296) 1000) then some (n + hs.1.length + 1, (hs.1 ++ ((104, (List.range (Nat.mod i 4294967296)).map (fun j => Value.ref (n + hs.1.length + 1 + j))) :: List.replicate (Nat.mod i 4294967296) (100, List.replicate (Nat.mod j 4294967296) (.int 0))), hs.2.1 + 1 + Nat.mod i 4294967296, hs.2.2 + Nat.mod i 4294967296 + Nat.mod i 4294967296 * Nat.mod j 4294967296)) else none
theorem g_mna {β : Type} {K : Nat × kHS → Option β} {y : β} {nS i j : Nat} (hf : ob (dmna nS i j hs) K = some y) (k : ∀ q, K q = some y → kGo M ML mi d0 os 0 (L, rv q.1 :: S, q.2) r) : kGo M ML mi d0 (fun cl => oMna nS :: os cl) b (L, .int (nI j) :: .int (nI i) :: S, hs) r := by
  obtain ⟨q, h1, h2⟩ := ob_some hf
  refine g_op ?_ (k q h2)
  unfold dmna at h1
  cases hc : ((wpos i && wpos j) && (Nat.ble (Nat.mod i 4294967296) 1000 && Nat.ble (Nat.mod j 4294967296) 1000)) with
  | false => rw [hc] at h1; cases h1
  | true =>
    rw [hc] at h1
    cases h1
    simp only [Bool.and_eq_true] at hc
    obtain ⟨⟨c1, c2⟩, c3, c4⟩ := hc
    have h3 : ∀ x, Nat.ble x 1000 = true → Nat.blt 1000 x = false := fun x hx => by
      have h2 := Nat.le_of_ble_eq_true hx
      cases h9 : Nat.blt 1000 x with
      | false => rfl
      | true =>
        have h10 : 1000 + 1 ≤ x := Nat.le_of_ble_eq_true h9
        omega
    unfold oMna
    dsimp only
    rw [neg_w, neg_w, c1, c2, clamp_w c1, clamp_w c2, h3 _ c3, h3 _ c4]
    rfl
noncomputable def dnew (n ci N : Nat) (ds : List Value) (hs : kHS) : Option (Nat × kHS) := some (n + hs.1.length + 1, (hs.1 ++ [(ci, ds)], hs.2.1 + 1, hs.2.2 + N))
theorem g_new {β : Type} {K : Nat × kHS → Option β} {y : β} {nS ci N : Nat} {ds : List Value} (hf : ob (dnew nS ci N ds hs) K = some y) (k : ∀ q, K q = some y → kGo M ML mi d0 os 0 (L, rv q.1 :: S, q.2) r) : kGo M ML mi d0 (fun cl => oNew nS ci N ds :: os cl) b (L, S, hs) r := by
  obtain ⟨q, h1, h2⟩ := ob_some hf
  cases h1
  exact g_op rfl (k _ h2)
theorem g_obj {β : Type} {K : Unit → Option β} {y : β} {a : Nat} (hf : ob (dnn a) K = some y) (h4 : Nat.ble S.length 4 = true) (k : K () = some y → kGo M ML mi d0 os 0 (L, S, hs) r) : kGo M ML mi d0 (fun cl => oObj :: os cl) b (L, rv a :: S, hs) r := by
  obtain ⟨⟨⟩, h1, h2⟩ := ob_some hf
  obtain ⟨c, rfl⟩ := dnn_some h1
  refine g_op ?_ (k h2)
  unfold oObj
  show (bif Nat.ble S.length 4 then _ else none) = _
  rw [h4]
  rfl
/-- a virtual call, a constructor's call: the receiver is looked at first -/
theorem g_virD {β : Type} {K : Unit → Option β} {y : β} {nS ci a : Nat} (hf : ob (dtag nS ci hs.1 a) K = some y) (hS : S.drop n = rv a :: S.drop (n + 1)) (k : K () = some y → kGo M ML mi d0 (fun cl => oCall cl mi' (n + 1) :: os cl) b (L, S, hs) r) : kGo M ML mi d0 (fun cl => oCallV cl mi' n ci nS :: os cl) b (L, S, hs) r := by
  obtain ⟨⟨⟩, h1, h2⟩ := ob_some hf
  obtain ⟨c, q, rfl, h3, h4⟩ := dtag_some h1
  exact g_vir ⟨q, h3, h4⟩ hS (k h2)
theorem g_iniD {β : Type} {K : Unit → Option β} {y : β} {a : Nat} (hf : ob (dnn a) K = some y) (hS : S.drop n = rv a :: S.drop (n + 1)) (k : K () = some y → kGo M ML mi d0 (fun cl => oCall cl mi' (n + 1) :: os cl) b (L, S, hs) r) : kGo M ML mi d0 (fun cl => oCallI cl mi' n :: os cl) b (L, S, hs) r := by
  obtain ⟨⟨⟩, h1, h2⟩ := ob_some hf
  obtain ⟨c, rfl⟩ := dnn_some h1
  exact g_ini hS (k h2)
end DG
