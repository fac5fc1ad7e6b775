/-! ===== methods with tables of handlers; calls in a try; calls through an interface ===== -/
/-- the blocks of a method that has a table of handlers -/
def kMOKH (E : kE) (XX : State → Prop) (σ : List Nat) (zs : List (String × String × Nat)) (l : Launch) (Y : Nat → MethodName) (WS : Nat → List Cond) (y : MethodName) (ws : List Cond) (cc : ByteArray) (maxL : Nat) (ret : Option FieldType) (hh : List (Nat × Nat × Nat × Nat)) (bl : kCall → List (List kOp)) : Prop :=
  ∀ (d : Nat) (cl : kCall), kSnd E XX σ zs l Y WS d cl → ∀ (p : Program) (e : Env) (R : Room) (s : State) (m : MethodId) (args : Array Value) (below : List Frame) (meth : Method) (c : Code) (α0 : List Nat) (nc0 ns0 : Nat) (res : kRes), kCx E XX σ zs p l e R s m args below meth c α0 cc maxL nc0 ns0 res y.cls ws → d + 9 ≤ R.frames → 40 * d + 190 ≤ R.locals → meth.sig.returnType = ret → meth.name = y.name → c.exceptionTable.toList = tableOf hh →
    ∃ pcs : Nat → Nat, pcs 0 = 0 ∧ ∀ (b : Nat) (ops : List kOp), (bl cl)[b]? = some ops → kChain E p l e R s m args below meth c α0 maxL nc0 ns0 res pcs (pcs b) ops
theorem met_ofH {E : kE} {XX : State → Prop} {σ : List Nat} {zs : List (String × String × Nat)} {l : Launch} {Y : Nat → MethodName} {WS : Nat → List Cond} {y : MethodName} {ws ws' : List Cond} {cc : ByteArray} {maxL d F : Nat} {ret : Option FieldType} {hh : List (Nat × Nat × Nat × Nat)} {bl : kCall → List (List kOp)} {cl : kCall} {args1 : List Value} {hs : kHS} {res : kRes} (hst : kStab (kb E) XX) (hfl : l.stackTraces = false) (hy : plainName y.cls = true) (hw : ws = Cond.codeWith y cc maxL ret hh :: ws') (hm : kMOKH E XX σ zs l Y WS y ws cc maxL ret hh bl) (hS : kSnd E XX σ zs l Y WS d cl) (hz : ksz args1 ≤ maxL) (hr : krun (bl cl) F 0 (lv_args 0 args1, [], hs) = some res) (h1 : hs.2.1 ≤ res.2.2.1) (h2 : hs.2.2 ≤ res.2.2.2) : kMet E XX σ zs l y ws (d + 1) args1 hs res := by
  refine ⟨h1, h2, fun α0 => ?_⟩
  refine vx_ofWH (cc := cc) (maxL := maxL) (ret := ret) (hh := hh) hy hw ?_
  intro p e s m args below meth c s₁ B hml hP
  obtain ⟨⟨av, hav, rfl⟩, hR, hKK, hσ⟩ := hP
  have hB := atoms_spec (ws := ws) B.pre
  have ht : c.exceptionTable.toList = tableOf hh := vx_table (x := y) B (hB _ (by rw [hw]; exact List.mem_cons_self))
  have C : kCx E XX σ zs p l e (headSpec ws ({ frames := d + 1 + 8, cells := res.2.2.1 - hs.2.1, slots := res.2.2.2 - hs.2.2, locals := 40 * (d + 1) + 150 })).room s m av.toArray below meth c α0 cc maxL hs.2.1 hs.2.2 res y.cls ws := ⟨B.exec, B.bytes, hml, findClass_of_methodNamed B.named, hB, B.notSynchronized, hKK, hst, hσ, hfl, Nat.le_refl _, Nat.le_refl _, (by show 8 ≤ d + 1 + 8; omega), (by show 150 ≤ 40 * (d + 1) + 150; omega)⟩
  obtain ⟨pcs, hp0, hch⟩ := hm d cl hS p e _ s m av.toArray below meth c α0 hs.2.1 hs.2.2 res C (by show d + 9 ≤ d + 1 + 8; omega) (by show 40 * d + 190 ≤ 40 * (d + 1) + 150; omega) B.returns (name_of_methodNamed B.named B.method).1 ht
  obtain ⟨-, k⟩ := run_ok hch F 0 _ hr
  have hl := lv_entry av (n := maxL) (by rw [ksz_sl, ksz_cv hav]; exact hz)
  rw [lg_entry_eq]
  have k2 := k α0 s.heap [] _ _ [] (List.prefix_refl _) hR va_S.rf (kvL_args 0 hav) hl rfl (Nat.le_refl _) (Nat.le_refl _)
  dsimp only at k2
  rw [Nat.sub_self, Nat.sub_self, hp0] at k2
  exact k2
/-- the head of a method's words -/
def kHd (y : MethodName) (cc : ByteArray) (n : Nat) (ret : Option FieldType) : Option (List (Nat × Nat × Nat × Nat)) → Cond
  | none => Cond.code y cc n ret
  | some hh => Cond.codeWith y cc n ret hh
theorem kcall_okH {E : kE} {XX : State → Prop} {σ : List Nat} {zs : List (String × String × Nat)} {l : Launch} {Y : Nat → MethodName} {WS : Nat → List Cond} {CC : Nat → ByteArray} {ML : Nat → Nat} {RT : Nat → Option FieldType} {HH : Nat → Option (List (Nat × Nat × Nat × Nat))} {M : kCall → Nat → List (List kOp)} {F : Nat} {G : List Cond} (hst : kStab (kb E) XX) (hfl : l.stackTraces = false) (hy : ∀ mi, plainName (Y mi).cls = true) (hw : ∀ mi, WS mi = kHd (Y mi) (CC mi) (ML mi) (RT mi) (HH mi) :: G) (hm : ∀ mi, (HH mi = none → kMOK E XX σ zs l Y WS (Y mi) (WS mi) (CC mi) (ML mi) (RT mi) (fun cl => M cl mi)) ∧ ∀ hh, HH mi = some hh → kMOKH E XX σ zs l Y WS (Y mi) (WS mi) (CC mi) (ML mi) (RT mi) hh (fun cl => M cl mi)) : ∀ d, kSnd E XX σ zs l Y WS d (kcall M ML F d)
  | 0 => fun mi args hs r h => by cases h
  | d + 1 => fun mi args hs r h => by
    have ih := kcall_okH (F := F) hst hfl hy hw hm d
    unfold kcall at h
    cases hb : Nat.ble (ksz args) (ML mi) with
    | false => rw [hb] at h; cases h
    | true =>
    rw [hb] at h
    simp only [cond_true] at h
    split at h
    · rename_i r1 hr1
      cases hb2 : (Nat.ble hs.2.1 r1.2.2.1 && Nat.ble hs.2.2 r1.2.2.2) with
      | false => rw [hb2] at h; cases h
      | true =>
      rw [hb2] at h
      cases h
      simp only [Bool.and_eq_true] at hb2
      have hw1 := hw mi
      cases hH : HH mi with
      | none =>
        rw [hH] at hw1
        exact met_of hst hfl (hy mi) hw1 ((hm mi).1 hH) ih (Nat.le_of_ble_eq_true hb) hr1 (Nat.le_of_ble_eq_true hb2.1) (Nat.le_of_ble_eq_true hb2.2)
      | some hh =>
        rw [hH] at hw1
        exact met_ofH hst hfl (hy mi) hw1 ((hm mi).2 hh hH) ih (Nat.le_of_ble_eq_true hb) hr1 (Nat.le_of_ble_eq_true hb2.1) (Nat.le_of_ble_eq_true hb2.2)
    · cases h
def oCallX (cl : kCall) (mi n : Nat) (hk : Nat → Option (Nat × Nat)) (b0 : Nat) : kOp := fun fs => bif Nat.ble n fs.2.1.length && Nat.ble (ksz (fs.2.1.drop n)) 8 then (match cl mi (fs.2.1.take n).reverse fs.2.2 with
  | some (.inl vo, hs) => some (.inl (b0, (fs.1, vo.toList ++ fs.2.1.drop n, hs)))
  | some (.inr k, hs) => (match hk k with
    | some q => some (.inl (q.1, (fs.1.filter (kf1 q.2), [], hs)))
    | none => none)
  | none => none) else none
/-- a call in a try of a method of an object: what is thrown goes to the block that hk names, behind the store into a local -/
def oCallVX (cl : kCall) (mi n ci nS : Nat) (hk : Nat → Option (Nat × Nat)) (b0 : Nat) : kOp := fun fs => match (fs.2.1.drop n) with
  | .ref a :: _ => (match kcell nS fs.2.2.1 a with
    | some q => bif Nat.beq q.1 ci then oCallX cl mi (n + 1) hk b0 fs else none
    | none => none)
  | _ => none
/-- a call through an interface that answers -/
def oCallF (cl : kCall) (mi n ci nS : Nat) : kOp := fun fs => match oCallV cl mi n ci nS fs with
  | some (.inl q) => some (.inl q)
  | _ => none
section KB
variable {p : Program} {l : Launch} {e : Env} {R : Room} {s : State} {m : MethodId} {args : Array Value} {below : List Frame} {meth : Method} {c : Code}
variable {E : kE} {XX : State → Prop} {σ α0 : List Nat} {cc : ByteArray} {nL nc0 ns0 : Nat} {res : kRes} {pc pc' : Nat} {own : String} {ws : List Cond} {zs : List (String × String × Nat)}
/-- a static method with a table of handlers -/
theorem ok_callSX {cl : kCall} {mi n d maxL ix : Nat} {y : MethodName} {bytes : ByteArray} {ret : Option FieldType} {hh : List (Nat × Nat × Nat × Nat)} {wy wy' : List Cond} (C : kCx E XX σ zs p l e R s m args below meth c α0 cc nL nc0 ns0 res own ws) (hout : ∀ x ∈ c.exceptionTable.toList, False) (hf : d + 9 ≤ R.frames) (hlo : 40 * d + 190 ≤ R.locals) (hM : ∀ args1 hs r, cl mi args1 hs = some r → kMet E XX σ zs l y wy d args1 hs r) (hw : wy = Cond.codeWith y bytes maxL ret hh :: wy') (hG : GoodIn ws (va_wsS own ix y wy)) (hml : maxL ≤ 21) (hdn : y.cls ≠ "java/lang/invoke/MethodHandle" ∧ y.cls ≠ "java/lang/invoke/VarHandle" ∧ (parseMethodDescriptor y.desc).map (fun d => d.parameters.length) = some n) (hd : decode cc pc = .ok (.invokestatic ix, 3)) : kOK E p l e R s m args below meth c α0 nL nc0 ns0 res pc (kTo (pc + 3)) (oCall cl mi n) := by
  intro fs r h
  refine ok_call C hout (G := fun _ => True) (fun fs r _ hcl => ?_) fs r trivial h
  obtain ⟨m1, m2, hme⟩ := hM _ _ _ hcl
  refine ⟨⟨m1, m2⟩, fun α H locs ls av rest cells slots hp hR hV ha hn hls hsy hc1 hc2 => ?_⟩
  exact vx_runSX (hh := hh) (As := av) (rest := rest) ⟨C.1, C.2.1, C.2.2.1, C.2.2.2.1, C.2.2.2.2.1⟩ (hme α) (vx_cwSW n C.2.2.2.2.1 hG hw rfl rfl hdn ⟨by show d + 8 + 1 ≤ _; omega, by show 8 + (maxL + 11) + (40 * d + 150) ≤ _; omega⟩) (k_pre_s C hp hR hV ha) rfl ((kvS_len ha).trans hn) hls rfl (lv_room hsy) hd ⟨hc1, hc2⟩
/-- a handler that begins with a store -/
def kCat (p : Program) (l : Launch) (e : Env) (R : Room) (s : State) (m : MethodId) (args : Array Value) (below : List Frame) (meth : Method) (c : Code) (nL pc k tgt i : Nat) : Prop :=
  ∀ (H : Heap) (locs : List Loc) (cells slots : Nat) (ls : Array Slot) (rest : List Value) (lv : List (Nat × Value)) (q : Addr) (ce : Cell) (Q : State → Prop), H[q]? = some ce → ce.vm = .none → s.vm.findClass (kEx k) = some ce.cls → lv_has ls nL lv →
    (∀ ls' : Array Slot, lv_has ls' nL (lv.filter (kf1 i)) → W p l e R s m args below meth c H locs cells slots Q (F0 m tgt ls' [])) → vx_W p l e R s m args below meth c H locs cells slots Q (F0 m pc ls rest) q
theorem k_catch {k i : Nat} (C : kCx E XX σ zs p l e R s m args below meth c α0 cc nL nc0 ns0 res own ws) (pre : List ExceptionTableEntry) (x : ExceptionTableEntry) (suf : List ExceptionTableEntry) (hsplit : c.exceptionTable.toList = pre ++ x :: suf)
    (hpass : ∀ z ∈ pre, covers z pc = false ∨ (z.catchType ≠ 0 ∧ ∃ nm : String, (Cond.classLink own z.catchType nm).before args s = true ∧ va_Nc (kEx k) nm s)) (hx : covers x pc = true) (h0 : x.catchType ≠ 0)
    (hlink : Cond.classLink own x.catchType (kEx k) ∈ ws) (hcast : va_Nw (.castable (kEx k) (kEx k)) s) (hn : i < nL) {tgt : Nat} (hd : (∃ f : Fin 4, (f : Nat) = i ∧ decode cc x.handlerPc = .ok (.astore_n f, 1) ∧ tgt = x.handlerPc + 1) ∨ (decode cc x.handlerPc = .ok (.astore i, 2) ∧ tgt = x.handlerPc + 2)) : kCat p l e R s m args below meth c nL pc k tgt i := by
  intro H locs cells slots ls rest lv q ce Q hc hv hcl hl kk
  refine vx_catch C.2.2.2.1 pre x suf hsplit hpass hx h0 (C.2.2.2.2.1 _ hlink) (va_Nw.use rfl hcast) hc hv hcl ?_
  rcases hd with ⟨f, hf, hd, rfl⟩ | ⟨hd, rfl⟩
  · exact lv_astore_n C.1 C.2.1 hd hf hl hn rfl fun ls' hl' => kk ls' ⟨hl'.1, hl'.2.1, fun z hz => hl'.2.2 z (List.mem_cons_of_mem _ hz)⟩
  · exact lv_astore C.1 C.2.1 hd hl hn rfl fun ls' hl' => kk ls' ⟨hl'.1, hl'.2.1, fun z hz => hl'.2.2 z (List.mem_cons_of_mem _ hz)⟩
theorem ok_callT {cl : kCall} {mi n b0 : Nat} {hk : Nat → Option (Nat × Nat)} {pcs : Nat → Nat} (C : kCx E XX σ zs p l e R s m args below meth c α0 cc nL nc0 ns0 res own ws) (hcat : ∀ k q, hk k = some q → kCat p l e R s m args below meth c nL pc k (pcs q.1) q.2) (hb0 : pcs b0 = pc + 3) {G : kFS → Prop} (hrun : ∀ (fs : kFS) (r : kRes), G fs → cl mi (fs.2.1.take n).reverse fs.2.2 = some r → kRuns E p l e R s m args below meth c α0 nL pc n (fs.2.1.take n).reverse fs.2.2 r) : ∀ (fs : kFS) (r : (Nat × kFS) ⊕ kRes), G fs → oCallX cl mi n hk b0 fs = some r → match r with
    | .inl q => fs.2.2.2.1 ≤ q.2.2.2.2.1 ∧ fs.2.2.2.2 ≤ q.2.2.2.2.2 ∧ (q.2.2.2.2.1 ≤ res.2.2.1 → q.2.2.2.2.2 ≤ res.2.2.2 → kW E p l e R s m args below meth c α0 nL nc0 ns0 (kQ E below args s α0 nc0 ns0 res) (pcs q.1) q.2 → kW E p l e R s m args below meth c α0 nL nc0 ns0 (kQ E below args s α0 nc0 ns0 res) pc fs)
    | .inr q => fs.2.2.2.1 ≤ q.2.2.1 ∧ fs.2.2.2.2 ≤ q.2.2.2 ∧ (q = res → kW E p l e R s m args below meth c α0 nL nc0 ns0 (kQ E below args s α0 nc0 ns0 res) pc fs) := by
  intro fs r hG h
  obtain ⟨L, S, hs⟩ := fs
  unfold oCallX at h
  cases hb : (Nat.ble n S.length && Nat.ble (ksz (S.drop n)) 8) with
  | false => dsimp only at h; rw [hb] at h; cases h
  | true =>
  dsimp only at h
  rw [hb] at h
  simp only [cond_true] at h
  simp only [Bool.and_eq_true] at hb
  have hn1 := Nat.le_of_ble_eq_true hb.1
  have hn2 := Nat.le_of_ble_eq_true hb.2
  have hRc := C.2.2.2.2.2.2.2.2.2.2.1
  have hRs := C.2.2.2.2.2.2.2.2.2.2.2.1
  have split1 : ∀ (α : List Nat) (st : List Value), kvS α S = some st → ∃ x y, st = x ++ y ∧ kvS α (S.take n) = some x ∧ kvS α (S.drop n) = some y ∧ x.length = n ∧ (y.map fun v => v.category).sum ≤ 8 := by
    intro α st hst
    obtain ⟨x, y, e1, e2, e3, e4⟩ := kvS_app (a := S.take n) (b := S.drop n) (by rw [List.take_append_drop]; exact hst)
    refine ⟨x, y, e1, e2, e3, by rw [e4, List.length_take]; omega, ?_⟩
    rw [kvS_ksz e3]
    exact hn2
  split at h
  · rename_i vo hs1 hcl
    cases h
    obtain ⟨⟨m1, m2⟩, hru⟩ := hrun (L, S, hs) _ hG hcl
    dsimp only at m1 m2
    refine ⟨m1, m2, fun b1 b2 k2 => ?_⟩
    intro α H locs ls lv st hp hR hV hL hl hst g1 g2
    dsimp only at b1 b2 g1 g2
    obtain ⟨x, y, rfl, ex, ey, ex2, ey2⟩ := split1 α st hst
    have hq := hru α H locs ls x.reverse y (hs.2.1 - nc0) (hs.2.2 - ns0) hp hR hV (kvS_rev ex) (by simp; omega) hl.1 ey2 (by dsimp only; refine Nat.le_trans ?_ hRc; omega) (by dsimp only; refine Nat.le_trans ?_ hRs; omega)
    rw [List.reverse_reverse] at hq
    refine k_run hq hV (fun α' k ce q9 H1 locs1 z1 z2 z3 z4 z5 z6 z7 => by cases z2) (fun α' vo2 wo H1 locs1 z1 z2 z3 z4 z5 => ?_)
    cases z2
    have hst2 : kvS α' (vo.toList ++ S.drop n) = some (wo.toList ++ y) := by
      refine kvS_appM ?_ (kvS_mono z1 ey)
      cases vo with
      | none => cases z3; rfl
      | some v =>
        simp only [kvO, Option.map_eq_some_iff] at z3
        obtain ⟨w9, w1, w2⟩ := z3
        subst w2
        exact kvS_mk w1 rfl
    have k3 := k2 α' H1 locs1 ls lv (wo.toList ++ y) (List.IsPrefix.trans hp z1) z4 z5 (kvL_mono z1 hL) hl hst2 (by dsimp only; omega) (by dsimp only; omega)
    dsimp only at k3 ⊢
    rw [show hs.2.1 - nc0 + (hs1.2.1 - hs.2.1) = hs1.2.1 - nc0 by omega, show hs.2.2 - ns0 + (hs1.2.2 - hs.2.2) = hs1.2.2 - ns0 by omega]
    rw [hb0] at k3
    exact k3
  · rename_i k hs1 hcl
    split at h
    · rename_i q9 hq9
      cases h
      obtain ⟨⟨m1, m2⟩, hru⟩ := hrun (L, S, hs) _ hG hcl
      dsimp only at m1 m2
      refine ⟨m1, m2, fun b1 b2 k2 => ?_⟩
      intro α H locs ls lv st hp hR hV hL hl hst g1 g2
      dsimp only at b1 b2 g1 g2
      obtain ⟨x, y, rfl, ex, ey, ex2, ey2⟩ := split1 α st hst
      have hq := hru α H locs ls x.reverse y (hs.2.1 - nc0) (hs.2.2 - ns0) hp hR hV (kvS_rev ex) (by simp; omega) hl.1 ey2 (by dsimp only; refine Nat.le_trans ?_ hRc; omega) (by dsimp only; refine Nat.le_trans ?_ hRs; omega)
      rw [List.reverse_reverse] at hq
      refine k_run hq hV (fun α' k2' ce qa H1 locs1 z1 z2 z3 z4 z5 z6 z7 => ?_) (fun α' vo2 wo H1 locs1 z1 z2 z3 z4 z5 => by cases z2)
      cases z2
      refine hcat k q9 hq9 H1 locs1 _ _ ls y lv qa ce _ z5 z6 z7 hl (fun ls' hl' => ?_)
      have k3 := k2 α' H1 locs1 ls' (lv.filter (kf1 q9.2)) [] (List.IsPrefix.trans hp z1) z3 z4 (kvL_filter _ (kf1_cat q9.2) (kvL_mono z1 hL)) hl' rfl (by dsimp only; omega) (by dsimp only; omega)
      dsimp only at k3 ⊢
      rw [show hs.2.1 - nc0 + (hs1.2.1 - hs.2.1) = hs1.2.1 - nc0 by omega, show hs.2.2 - ns0 + (hs1.2.2 - hs.2.2) = hs1.2.2 - ns0 by omega]
      exact k3
    · cases h
  · cases h
/-- what a call of an object's method gives -/
theorem k_runsV {cl : kCall} {mi n d maxL ix ci nS : Nat} {y : MethodName} {bytes : ByteArray} {ret : Option FieldType} {wy wy' : List Cond} {r0 : vw_C} (C : kCx E XX σ zs p l e R s m args below meth c α0 cc nL nc0 ns0 res own ws) (hnS : kn E = nS) (hf : d + 9 ≤ R.frames) (hlo : 40 * d + 190 ≤ R.locals) (hM : ∀ args1 hs r, cl mi args1 hs = some r → kMet E XX σ zs l y wy d args1 hs r) (hw : wy = Cond.code y bytes maxL ret :: wy') (hc : (kcl E)[ci]? = some r0) (hG : GoodIn ws (wsV own ix r0.1 y wy)) (hml : maxL ≤ 21) (hdn : y.cls = r0.1 ∧ y.cls ≠ "java/lang/invoke/MethodHandle" ∧ y.cls ≠ "java/lang/invoke/VarHandle" ∧ (parseMethodDescriptor y.desc).map (fun d => d.parameters.length) = some n) (hd : decode cc pc = .ok (.invokevirtual ix, 3)) : ∀ (fs : kFS) (r : kRes), (∃ a S1 q, fs.2.1.drop n = .ref a :: S1 ∧ kcell nS fs.2.2.1 a = some q ∧ q.1 = ci) → cl mi (fs.2.1.take (n + 1)).reverse fs.2.2 = some r → kRuns E p l e R s m args below meth c α0 nL pc (n + 1) (fs.2.1.take (n + 1)).reverse fs.2.2 r := by
  intro fs r hg hcl
  obtain ⟨a, S1, q, hS, hq, hqc⟩ := hg
  obtain ⟨m1, m2, hme⟩ := hM _ _ _ hcl
  refine ⟨⟨m1, m2⟩, fun α H locs ls av rest cells slots hp hR hV ha hn hls hsy hc1 hc2 => ?_⟩
  have e0 : (fs.2.1.take (n + 1)).reverse = .ref a :: (fs.2.1.take n).reverse := by
    rw [List.take_add, hS, List.reverse_append]
    rfl
  have hpre := k_pre_s C hp hR hV ha
  rw [e0] at ha hn
  obtain ⟨b, av', rfl, hb, hav⟩ := kvS_ref ha
  rw [List.reverse_cons, List.append_assoc]
  obtain ⟨g1, g2⟩ := kcell_spec hq
  subst hnS
  obtain ⟨hb0, cell, q1, q3, q4⟩ := hR.at g1 g2 hb
  rw [hqc] at q4
  rcases q4 with ⟨rr, e1, e2, e3, e4⟩ | ⟨e1, -⟩
  · have hKn := C.2.2.2.2.2.2.1.2.1 ci _ hc
    exact vx_runV (b := b) (As := av') (rest := rest) ⟨C.1, C.2.1, C.2.2.1, C.2.2.2.1, C.2.2.2.2.1⟩ (hme α) (cwV n C.2.2.2.2.1 hG hw rfl rfl hdn ⟨by show d + 8 + 1 ≤ _; omega, by show 8 + (maxL + 11) + (40 * d + 150) ≤ _; omega⟩) ⟨hpre.1, ⟨cell, q1, by rw [q3]; rfl, by rw [e2]; exact hKn.2.1⟩, hpre.2⟩ rfl (by have h1 := kvS_len hav; have h2 : (List.take n fs.2.1).reverse.length + 1 = n + 1 := hn; omega) hls rfl (lv_room hsy) hd ⟨hc1, hc2⟩
  · exact absurd (k_classlt C hc) (by omega)
theorem ok_callVX {cl : kCall} {mi n d maxL ix ci nS b0 : Nat} {hk : Nat → Option (Nat × Nat)} {pcs : Nat → Nat} {y : MethodName} {bytes : ByteArray} {ret : Option FieldType} {wy wy' : List Cond} {r0 : vw_C} (C : kCx E XX σ zs p l e R s m args below meth c α0 cc nL nc0 ns0 res own ws) (hnS : kn E = nS) (hcat : ∀ k q, hk k = some q → kCat p l e R s m args below meth c nL pc k (pcs q.1) q.2) (hb0 : pcs b0 = pc + 3) (hf : d + 9 ≤ R.frames) (hlo : 40 * d + 190 ≤ R.locals) (hM : ∀ args1 hs r, cl mi args1 hs = some r → kMet E XX σ zs l y wy d args1 hs r) (hw : wy = Cond.code y bytes maxL ret :: wy') (hc : (kcl E)[ci]? = some r0) (hG : GoodIn ws (wsV own ix r0.1 y wy)) (hml : maxL ≤ 21) (hdn : y.cls = r0.1 ∧ y.cls ≠ "java/lang/invoke/MethodHandle" ∧ y.cls ≠ "java/lang/invoke/VarHandle" ∧ (parseMethodDescriptor y.desc).map (fun d => d.parameters.length) = some n) (hd : decode cc pc = .ok (.invokevirtual ix, 3)) : kOK E p l e R s m args below meth c α0 nL nc0 ns0 res pc pcs (oCallVX cl mi n ci nS hk b0) := by
  intro fs r h
  unfold oCallVX at h
  split at h
  · rename_i a S1 hS
    split at h
    · rename_i q hq
      cases hb : Nat.beq q.1 ci with
      | false => rw [hb] at h; cases h
      | true =>
      rw [hb] at h
      exact ok_callT C hcat hb0 (G := fun fs => ∃ a S1 q, fs.2.1.drop n = .ref a :: S1 ∧ kcell nS fs.2.2.1 a = some q ∧ q.1 = ci) (k_runsV C hnS hf hlo hM hw hc hG hml hdn hd) fs r ⟨a, S1, q, hS, hq, Nat.eq_of_beq_eq_true hb⟩ h
    · cases h
  · cases h
theorem k_met {y : MethodName} {wy : List Cond} {rm : Room} {Pc : Array Value → State → Prop} {α1 : List Nat} {r : kRes} {mc ms : Nat} {free : Addr → Prop} {vo : Option Value} (hme : vx_Met l y wy rm Pc (kQc E α1 r) (kXc E α1 r) mc ms free) (hr : r.1 = .inl vo) : Met l y wy rm Pc (kQc E α1 r) mc ms free := by
  intro p e ha hc hk s m args below hf happ hP hK
  obtain ⟨n, o, h1, h2, h3, h4⟩ := hme p e ha hc hk s m args below hf happ hP hK
  rcases h4 with h4 | ⟨q, -, Ex, ce, L, ⟨⟨α, k, -, h, -⟩, -⟩, -⟩
  · exact ⟨n, o, h1, h2, h3, h4⟩
  · rw [hr] at h
    cases h
theorem ok_callF {cl : kCall} {mi n d maxL ix ci nS ct : Nat} {x y : MethodName} {bytes : ByteArray} {ret : Option FieldType} {wy wy' : List Cond} {r0 : vw_C} (C : kCx E XX σ zs p l e R s m args below meth c α0 cc nL nc0 ns0 res own ws) (hnS : kn E = nS) (hf : d + 9 ≤ R.frames) (hlo : 40 * d + 190 ≤ R.locals) (hM : ∀ args1 hs r, cl mi args1 hs = some r → kMet E XX σ zs l y wy d args1 hs r) (hw : wy = Cond.code y bytes maxL ret :: wy') (hc : (kcl E)[ci]? = some r0) (hF : va_Fw r0.1 x y s) (hG : GoodIn ws (va_wsF own ix r0.1 x y wy)) (hml : maxL ≤ 21) (hdn : x.cls ≠ "java/lang/invoke/MethodHandle" ∧ x.cls ≠ "java/lang/invoke/VarHandle" ∧ (parseMethodDescriptor x.desc).map (fun d => d.parameters.length) = some n) (hd : decode cc pc = .ok (.invokeinterface ix ct, 5)) : kOK E p l e R s m args below meth c α0 nL nc0 ns0 res pc (kTo (pc + 5)) (oCallF cl mi n ci nS) := by
  intro fs r h
  unfold oCallF at h
  split at h
  · rename_i q0 hq0
    cases h
    unfold oCallV at hq0
    split at hq0
    · rename_i a S1 hS
      split at hq0
      · rename_i q hq
        cases hb : Nat.beq q.1 ci with
        | false => rw [hb] at hq0; cases hq0
        | true =>
        rw [hb] at hq0
        have hqc := Nat.eq_of_beq_eq_true hb
        obtain ⟨L, S, hs⟩ := fs
        simp only [cond_true] at hq0
        unfold oCall at hq0
        dsimp only at hq0 hS hq
        cases hb2 : (Nat.ble (n + 1) S.length && Nat.ble (ksz (S.drop (n + 1))) 8) with
        | false => rw [hb2] at hq0; cases hq0
        | true =>
        rw [hb2] at hq0
        simp only [cond_true] at hq0
        simp only [Bool.and_eq_true] at hb2
        have hn1 := Nat.le_of_ble_eq_true hb2.1
        have hn2 := Nat.le_of_ble_eq_true hb2.2
        split at hq0
        · rename_i vo hs1 hcl
          cases hq0
          obtain ⟨m1, m2, hme⟩ := hM _ _ _ hcl
          dsimp only at m1 m2
          refine ⟨m1, m2, fun b1 b2 k2 => ?_⟩
          intro α H locs ls lv st hp hR hV hL hl hst g1 g2
          dsimp only at b1 b2 g1 g2
          have hRc := C.2.2.2.2.2.2.2.2.2.2.1
          have hRs := C.2.2.2.2.2.2.2.2.2.2.2.1
          obtain ⟨u, y9, rfl, ex, ey, e4⟩ := kvS_app (a := S.take (n + 1)) (b := S.drop (n + 1)) (by rw [List.take_append_drop]; exact hst)
          have hsy : (y9.map fun v => v.category).sum ≤ 8 := by rw [kvS_ksz ey]; exact hn2
          have e0 : (S.take (n + 1)).reverse = .ref a :: (S.take n).reverse := by
            rw [List.take_add, hS, List.reverse_append]
            rfl
          have ha := kvS_rev ex
          have hpre := k_pre_s C hp hR hV ha
          have hlu : u.length = n + 1 := by rw [e4, List.length_take]; omega
          rw [e0] at ha
          obtain ⟨b, av', eu, hb9, hav⟩ := kvS_ref ha
          obtain ⟨g1', g2'⟩ := kcell_spec hq
          subst hnS
          obtain ⟨hb0, cell, q1, q3, q4⟩ := hR.at g1' g2' hb9
          rw [hqc] at q4
          rcases q4 with ⟨rr, e1, e2, e3, e5⟩ | ⟨e1, -⟩
          · have hKn := C.2.2.2.2.2.2.1.2.1 ci _ hc
            rw [eu] at hpre
            have hlav : av'.length = n := by
              have := congrArg List.length eu
              rw [List.length_reverse, hlu] at this
              simp at this
              omega
            have eu2 : u = av'.reverse ++ [.ref b] := by
              have := congrArg List.reverse eu
              rw [List.reverse_reverse, List.reverse_cons] at this
              exact this
            have hrun := va_runF (e := e) (below := below) (meth := meth) (locs := locs) (cells := hs.2.1 - nc0) (slots := hs.2.2 - ns0) (b := b) (As := av') (rest := y9) (g := F0 m pc ls (u ++ y9)) hKn.2 ⟨C.1, C.2.1, C.2.2.1, C.2.2.2.1, C.2.2.2.2.1⟩ (k_met (hme α) rfl) (va_cwF n C.2.2.2.2.1 hG hw rfl rfl hF hdn ⟨by show d + 8 + 1 ≤ _; omega, by show 8 + (maxL + 11) + (40 * d + 150) ≤ _; omega⟩) ⟨hpre.1, ⟨cell, q1, by rw [q3]; rfl, by rw [e2]; exact hKn.2.1⟩, hpre.2⟩ rfl hlav hl.1 (by show u ++ y9 = _; rw [eu2, List.append_assoc]; rfl) (lv_room hsy) hd ⟨by dsimp only; refine Nat.le_trans ?_ hRc; omega, by dsimp only; refine Nat.le_trans ?_ hRs; omega⟩
            intro T hT X
            obtain ⟨v, st₀, t, T', L1, h0, X', hL1, f1, f2, ⟨⟨α', vo2, wo, z1, z2, z3, z4, z5⟩, hFF⟩, stp⟩ := hrun T hT X
            cases z3
            cases z2
            obtain ⟨-, -, k3⟩ := vx_keep h0 f1 hV (fun _ _ h => h) (fun _ h => h) hL1 hFF
            have hal : s.vm.Alike t.vm := by rw [← f2]; exact X'.warmed.alike
            have hR2 : kRep E s α' hs1.1 T'.heap := by rw [f1]; exact z5.moved hal.symm
            have hst2 : kvS α' (vo.toList ++ S.drop (n + 1)) = some (v.toList ++ y9) := by
              refine kvS_appM ?_ (kvS_mono z1 ey)
              cases vo with
              | none => cases z4; rfl
              | some v9 =>
                simp only [kvO, Option.map_eq_some_iff] at z4
                obtain ⟨w9, w1, w2⟩ := z4
                subst w2
                exact kvS_mk w1 rfl
            have k4 := k2 α' T'.heap (locs ++ L1) ls lv (v.toList ++ y9) (List.IsPrefix.trans hp z1) hR2 k3 (kvL_mono z1 hL) hl hst2 (by dsimp only; omega) (by dsimp only; omega)
            dsimp only at k4 X'
            rw [show hs.2.1 - nc0 + (hs1.2.1 - hs.2.1) = hs1.2.1 - nc0 by omega, show hs.2.2 - ns0 + (hs1.2.2 - hs.2.2) = hs1.2.2 - ns0 by omega] at X'
            obtain ⟨t2, a1, b1⟩ := k4 T' rfl X'
            exact ⟨t2, stp t2 a1, b1⟩
          · exact absurd (k_classlt C hc) (by omega)
        · cases hq0
        · cases hq0
      · cases hq0
    · cases hq0
  · cases h
end KB
