/-! ===== blocks, runs, methods ===== -/
def kseq : List kOp → Nat → kFS → Option ((Nat × kFS) ⊕ kRes)
  | [], b, fs => some (.inl (b, fs))
  | o :: os, _, fs => match o fs with
    | some (.inl q) => kseq os q.1 q.2
    | some (.inr r) => some (.inr r)
    | none => none
def krun (bl : List (List kOp)) : Nat → Nat → kFS → Option kRes
  | 0 => fun _ _ => none
  | n + 1 => fun b fs => match bl[b]? with
    | none => none
    | some ops => match kseq ops 0 fs with
      | some (.inl q) => krun bl n q.1 q.2
      | some (.inr r) => some r
      | none => none
/-- the methods: M gives a method's blocks, ML its places for locals; depth first, F blocks a run at most -/
def kcall (M : kCall → Nat → List (List kOp)) (ML : Nat → Nat) (F : Nat) : Nat → kCall
  | 0 => fun _ _ _ => none
  | d + 1 => fun mi args hs => bif Nat.ble (ksz args) (ML mi) then (match krun (M (kcall M ML F d) mi) F 0 (lv_args 0 args, [], hs) with
    | some r => bif Nat.ble hs.2.1 r.2.2.1 && Nat.ble hs.2.2 r.2.2.2 then some r else none
    | none => none) else none
theorem ksz_sl : ∀ vs : List Value, (lg_sl vs).length = ksz vs
  | [] => rfl
  | v :: vs => by
    have h := ksz_sl vs
    unfold lg_sl at h ⊢
    rw [List.flatMap_cons, List.length_append, h]
    rw [show ksz (v :: vs) = v.category + ksz vs from rfl]
    rcases lv_cat v with h1 | h1 <;> simp [h1]
theorem ksz_cv {α : List Nat} : ∀ {vs ws : List Value}, kvS α vs = some ws → ksz ws = ksz vs
  | [], ws, h => by cases h; rfl
  | v :: vs, ws, h => by
    obtain ⟨w, ws', rfl, h1, h2⟩ := kvS_cons h
    rw [show ksz (v :: vs) = v.category + ksz vs from rfl, show ksz (w :: ws') = w.category + ksz ws' from rfl, kv_cat h1, ksz_cv h2]
theorem kvL_args {α : List Nat} : ∀ {vs ws : List Value} (i : Nat), kvS α vs = some ws → kvL α (lv_args i vs) = some (lv_args i ws)
  | [], ws, i, h => by cases h; rfl
  | v :: vs, ws, i, h => by
    obtain ⟨w, ws', rfl, h1, h2⟩ := kvS_cons h
    unfold lv_args
    rw [kv_cat h1]
    exact kvL_mk h1 (kvL_args _ h2)
section KRUN
variable {p : Program} {l : Launch} {e : Env} {R : Room} {s : State} {m : MethodId} {args : Array Value} {below : List Frame} {meth : Method} {c : Code}
variable {E : kE} {XX : State → Prop} {σ α0 : List Nat} {cc : ByteArray} {nL nc0 ns0 : Nat} {res : kRes} {pc pc' : Nat} {own : String} {ws : List Cond} {zs : List (String × String × Nat)}
def kChain (E : kE) (p : Program) (l : Launch) (e : Env) (R : Room) (s : State) (m : MethodId) (args : Array Value) (below : List Frame) (meth : Method) (c : Code) (α0 : List Nat) (nL nc0 ns0 : Nat) (res : kRes) (pcs : Nat → Nat) : Nat → List kOp → Prop
  | _, [] => False
  | pc, o :: os => (os = [] ∧ kOK E p l e R s m args below meth c α0 nL nc0 ns0 res pc pcs o) ∨ (os ≠ [] ∧ ∃ pc', kOK E p l e R s m args below meth c α0 nL nc0 ns0 res pc (kTo pc') o ∧ kChain E p l e R s m args below meth c α0 nL nc0 ns0 res pcs pc' os)
theorem ch_last {pcs : Nat → Nat} {o : kOp} (h : kOK E p l e R s m args below meth c α0 nL nc0 ns0 res pc pcs o) : kChain E p l e R s m args below meth c α0 nL nc0 ns0 res pcs pc [o] := Or.inl ⟨rfl, h⟩
theorem ch_cons {pcs : Nat → Nat} {o o2 : kOp} {os : List kOp} (h : kOK E p l e R s m args below meth c α0 nL nc0 ns0 res pc (kTo pc') o) (t : kChain E p l e R s m args below meth c α0 nL nc0 ns0 res pcs pc' (o2 :: os)) : kChain E p l e R s m args below meth c α0 nL nc0 ns0 res pcs pc (o :: o2 :: os) := Or.inr ⟨by simp, pc', h, t⟩
theorem chain_ok {pcs : Nat → Nat} : ∀ (os : List kOp) (pc b0 : Nat), kChain E p l e R s m args below meth c α0 nL nc0 ns0 res pcs pc os → kOK E p l e R s m args below meth c α0 nL nc0 ns0 res pc pcs (kseq os b0)
  | [], pc, b0, h => h.elim
  | o :: os, pc, b0, h => by
    intro fs r hr
    unfold kseq at hr
    rcases h with ⟨rfl, h⟩ | ⟨hne, pc', h, ht⟩
    · split at hr
      · rename_i q hq
        unfold kseq at hr
        cases hr
        exact h fs _ hq
      · rename_i q hq
        cases hr
        exact h fs _ hq
      · cases hr
    · split at hr
      · rename_i q hq
        obtain ⟨a1, a2, a3⟩ := h fs _ hq
        have h2 := chain_ok os pc' q.1 ht q.2 r hr
        cases r with
        | inl q2 =>
          obtain ⟨b1, b2, b3⟩ := h2
          exact ⟨Nat.le_trans a1 b1, Nat.le_trans a2 b2, fun c1 c2 k => a3 (Nat.le_trans b1 c1) (Nat.le_trans b2 c2) (b3 c1 c2 k)⟩
        | inr q2 =>
          obtain ⟨b1, b2, b3⟩ := h2
          refine ⟨Nat.le_trans a1 b1, Nat.le_trans a2 b2, fun hq2 => ?_⟩
          subst hq2
          exact a3 b1 b2 (b3 rfl)
      · rename_i q hq
        cases hr
        exact h fs _ hq
      · cases hr
theorem run_ok {pcs : Nat → Nat} {bl : List (List kOp)} (hch : ∀ (b : Nat) (ops : List kOp), bl[b]? = some ops → kChain E p l e R s m args below meth c α0 nL nc0 ns0 res pcs (pcs b) ops) : ∀ (n b : Nat) (fs : kFS), krun bl n b fs = some res → (fs.2.2.2.1 ≤ res.2.2.1 ∧ fs.2.2.2.2 ≤ res.2.2.2) ∧ kW E p l e R s m args below meth c α0 nL nc0 ns0 (kQ E below args s α0 nc0 ns0 res) (pcs b) fs
  | 0, b, fs, h => by cases h
  | n + 1, b, fs, h => by
    unfold krun at h
    split at h
    · cases h
    · rename_i ops hops
      have h1 := chain_ok ops (pcs b) 0 (hch b ops hops)
      split at h
      · rename_i q hq
        obtain ⟨a1, a2, a3⟩ := h1 fs _ hq
        obtain ⟨⟨b1, b2⟩, b3⟩ := run_ok hch n q.1 q.2 h
        exact ⟨⟨Nat.le_trans a1 b1, Nat.le_trans a2 b2⟩, a3 b1 b2 b3⟩
      · rename_i q hq
        cases h
        obtain ⟨a1, a2, a3⟩ := h1 fs _ hq
        exact ⟨⟨a1, a2⟩, a3 rfl⟩
      · cases h
end KRUN
/-- the blocks of a method are right, where the methods that it calls are right one level below -/
def kMOK (E : kE) (XX : State → Prop) (σ : List Nat) (zs : List (String × String × Nat)) (l : Launch) (Y : Nat → MethodName) (WS : Nat → List Cond) (y : MethodName) (ws : List Cond) (cc : ByteArray) (maxL : Nat) (ret : Option FieldType) (bl : kCall → List (List kOp)) : Prop :=
  ∀ (d : Nat) (cl : kCall), kSnd E XX σ zs l Y WS d cl → ∀ (p : Program) (e : Env) (R : Room) (s : State) (m : MethodId) (args : Array Value) (below : List Frame) (meth : Method) (c : Code) (α0 : List Nat) (nc0 ns0 : Nat) (res : kRes), kCx E XX σ zs p l e R s m args below meth c α0 cc maxL nc0 ns0 res y.cls ws → d + 9 ≤ R.frames → 40 * d + 190 ≤ R.locals → meth.sig.returnType = ret → meth.name = y.name → (∀ x ∈ c.exceptionTable.toList, False) →
    ∃ pcs : Nat → Nat, pcs 0 = 0 ∧ ∀ (b : Nat) (ops : List kOp), (bl cl)[b]? = some ops → kChain E p l e R s m args below meth c α0 maxL nc0 ns0 res pcs (pcs b) ops
theorem met_of {E : kE} {XX : State → Prop} {σ : List Nat} {zs : List (String × String × Nat)} {l : Launch} {Y : Nat → MethodName} {WS : Nat → List Cond} {y : MethodName} {ws ws' : List Cond} {cc : ByteArray} {maxL d F : Nat} {ret : Option FieldType} {bl : kCall → List (List kOp)} {cl : kCall} {args1 : List Value} {hs : kHS} {res : kRes} (hst : kStab (kb E) XX) (hfl : l.stackTraces = false) (hy : plainName y.cls = true) (hw : ws = Cond.code y cc maxL ret :: ws') (hm : kMOK E XX σ zs l Y WS y ws cc maxL ret bl) (hS : kSnd E XX σ zs l Y WS d cl) (hz : ksz args1 ≤ maxL) (hr : krun (bl cl) F 0 (lv_args 0 args1, [], hs) = some res) (h1 : hs.2.1 ≤ res.2.2.1) (h2 : hs.2.2 ≤ res.2.2.2) : kMet E XX σ zs l y ws (d + 1) args1 hs res := by
  refine ⟨h1, h2, fun α0 => ?_⟩
  refine vx_ofW (cc := cc) (maxL := maxL) (ret := ret) hy hw ?_
  intro p e s m args below meth c s₁ B hml ht hP
  obtain ⟨⟨av, hav, rfl⟩, hR, hKK, hσ⟩ := hP
  have C : kCx E XX σ zs p l e (headSpec ws ({ frames := d + 1 + 8, cells := res.2.2.1 - hs.2.1, slots := res.2.2.2 - hs.2.2, locals := 40 * (d + 1) + 150 })).room s m av.toArray below meth c α0 cc maxL hs.2.1 hs.2.2 res y.cls ws := ⟨B.exec, B.bytes, hml, findClass_of_methodNamed B.named, atoms_spec (ws := ws) B.pre, B.notSynchronized, hKK, hst, hσ, hfl, Nat.le_refl _, Nat.le_refl _, (by show 8 ≤ d + 1 + 8; omega), (by show 150 ≤ 40 * (d + 1) + 150; omega)⟩
  obtain ⟨pcs, hp0, hch⟩ := hm d cl hS p e _ s m av.toArray below meth c α0 hs.2.1 hs.2.2 res C (by show d + 9 ≤ d + 1 + 8; omega) (by show 40 * d + 190 ≤ 40 * (d + 1) + 150; omega) B.returns (name_of_methodNamed B.named B.method).1 ht
  obtain ⟨-, k⟩ := run_ok hch F 0 _ hr
  have hl := lv_entry av (n := maxL) (by rw [ksz_sl, ksz_cv hav]; exact hz)
  rw [lg_entry_eq]
  have k2 := k α0 s.heap [] _ _ [] (List.prefix_refl _) hR va_S.rf (kvL_args 0 hav) hl rfl (Nat.le_refl _) (Nat.le_refl _)
  dsimp only at k2
  rw [Nat.sub_self, Nat.sub_self, hp0] at k2
  exact k2
/-- all methods at once -/
theorem kcall_ok {E : kE} {XX : State → Prop} {σ : List Nat} {zs : List (String × String × Nat)} {l : Launch} {Y : Nat → MethodName} {WS : Nat → List Cond} {CC : Nat → ByteArray} {ML : Nat → Nat} {RT : Nat → Option FieldType} {M : kCall → Nat → List (List kOp)} {F : Nat} {G : List Cond} (hst : kStab (kb E) XX) (hfl : l.stackTraces = false) (hy : ∀ mi, plainName (Y mi).cls = true) (hw : ∀ mi, WS mi = Cond.code (Y mi) (CC mi) (ML mi) (RT mi) :: G) (hm : ∀ mi, kMOK E XX σ zs l Y WS (Y mi) (WS mi) (CC mi) (ML mi) (RT mi) (fun cl => M cl mi)) : ∀ d, kSnd E XX σ zs l Y WS d (kcall M ML F d)
  | 0 => fun mi args hs r h => by cases h
  | d + 1 => fun mi args hs r h => by
    have ih := kcall_ok (F := F) hst hfl hy hw hm d
    unfold kcall at h
    cases hb : Nat.ble (ksz args) (ML mi) with
    | false => rw [hb] at h; cases h
    | true =>
    rw [hb] at h
    simp only [cond_true] at h
    split at h
    · rename_i r1 hr1
      cases hb2 : (Nat.ble hs.2.1 r1.2.2.1 && Nat.ble hs.2.2 r1.2.2.2) with
      | false => rw [hb2] at h; cases h
      | true =>
      rw [hb2] at h
      cases h
      simp only [Bool.and_eq_true] at hb2
      exact met_of hst hfl (hy mi) (hw mi) (hm mi) ih (Nat.le_of_ble_eq_true hb) hr1 (Nat.le_of_ble_eq_true hb2.1) (Nat.le_of_ble_eq_true hb2.2)
    · cases h
