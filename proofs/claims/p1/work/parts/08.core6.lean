/-! ===== calls; blocks; runs; the whole machine of methods, and that it is right ===== -/
abbrev kCall : Type := Nat → List Value → kHS → Option kRes
def oCall (cl : kCall) (mi n : Nat) : kOp := fun fs => bif Nat.ble n fs.2.1.length && Nat.ble (ksz (fs.2.1.drop n)) 8 then (match cl mi (fs.2.1.take n).reverse fs.2.2 with
  | some (.inl vo, hs) => some (.inl (0, (fs.1, vo.toList ++ fs.2.1.drop n, hs)))
  | some (.inr k, hs) => some (.inr (.inr k, hs))
  | none => none) else none
/-- a call of a method of an object: its class is looked at -/
def oCallV (cl : kCall) (mi n ci nS : Nat) : kOp := fun fs => match (fs.2.1.drop n) with
  | .ref a :: _ => (match kcell nS fs.2.2.1 a with
    | some q => bif Nat.beq q.1 ci then oCall cl mi (n + 1) fs else none
    | none => none)
  | _ => none
/-- a constructor's call: n arguments behind the object -/
def oCallI (cl : kCall) (mi n : Nat) : kOp := fun fs => match (fs.2.1.drop n) with
  | .ref _ :: _ => oCall cl mi (n + 1) fs
  | _ => none
def kPc (E : kE) (XX : State → Prop) (σ : List Nat) (zs : List (String × String × Nat)) (α0 : List Nat) (args : List Value) (hs : kHS) : Array Value → State → Prop := fun a U => (∃ av, kvS α0 args = some av ∧ a = av.toArray) ∧ kRep E U α0 hs.1 U.heap ∧ kKK E XX σ zs U ∧ σ <+: α0
/-- the contract of a method for these arguments and this heap: the result res -/
def kMet (E : kE) (XX : State → Prop) (σ : List Nat) (zs : List (String × String × Nat)) (l : Launch) (y : MethodName) (ws : List Cond) (d : Nat) (args : List Value) (hs : kHS) (res : kRes) : Prop :=
  hs.2.1 ≤ res.2.2.1 ∧ hs.2.2 ≤ res.2.2.2 ∧ ∀ α0 : List Nat, vx_Met l y ws ({ frames := d + 8, cells := res.2.2.1 - hs.2.1, slots := res.2.2.2 - hs.2.2, locals := 40 * d + 150 }) (kPc E XX σ zs α0 args hs) (kQc E α0 res) (kXc E α0 res) (res.2.2.1 - hs.2.1) (res.2.2.2 - hs.2.2) (fun q => kb E ≤ q)
theorem kPc_blind {E : kE} {XX : State → Prop} {σ : List Nat} {zs : List (String × String × Nat)} {α0 : List Nat} {args : List Value} {hs : kHS} (hst : kStab (kb E) XX) : FrameBlind (kPc E XX σ zs α0 args hs) := by
  intro a U g mk h
  obtain ⟨h1, h2, h3, h4⟩ := h
  exact ⟨h1, kRep.moved (u := U) (U := U.calling g mk a) (Vm.Alike.refl U.vm) h2, kKK.moved (U := U.calling g mk a) hst h3 (State.WarmedH.refl U) (Nat.le_refl _) (fun q _ => rfl), h4⟩
def kSnd (E : kE) (XX : State → Prop) (σ : List Nat) (zs : List (String × String × Nat)) (l : Launch) (Y : Nat → MethodName) (WS : Nat → List Cond) (d : Nat) (cl : kCall) : Prop := ∀ (mi : Nat) (args : List Value) (hs : kHS) (r : kRes), cl mi args hs = some r → kMet E XX σ zs l (Y mi) (WS mi) d args hs r
section KCALL
variable {p : Program} {l : Launch} {e : Env} {R : Room} {s : State} {m : MethodId} {args : Array Value} {below : List Frame} {meth : Method} {c : Code}
variable {E : kE} {XX : State → Prop} {σ α0 : List Nat} {cc : ByteArray} {nL nc0 ns0 : Nat} {res : kRes} {pc pc' : Nat} {own : String} {ws : List Cond} {zs : List (String × String × Nat)}
theorem k_run {α : List Nat} {H : Heap} {locs : List Loc} {cells slots mc ms : Nat} {ls : Array Slot} {st0 rest : List Value} {res1 : kRes} {av : Array Value} {Q : State → Prop} (hr : vx_Run p l e R s m args below meth c H locs cells slots mc ms (F0 m pc ls st0) rest (kQc E α res1 av) (kXc E α res1) (fun q => kb E ≤ q)) (hV : va_S (fun q => kb E ≤ q) s.heap H locs)
    (kx : ∀ (α' : List Nat) (k : Nat) (ce : Cell) (q9 : Addr) (H1 : Heap) (locs1 : List Loc), α <+: α' → res1.1 = .inr k → kRep E s α' res1.2.1 H1 → va_S (fun q => kb E ≤ q) s.heap H1 locs1 → H1[q9]? = some ce → ce.vm = .none → s.vm.findClass (kEx k) = some ce.cls → vx_W p l e R s m args below meth c H1 locs1 (cells + mc) (slots + ms) Q (F0 m pc ls rest) q9)
    (kk : ∀ (α' : List Nat) (vo wo : Option Value) (H1 : Heap) (locs1 : List Loc), α <+: α' → res1.1 = .inl vo → kvO α' vo = some wo → kRep E s α' res1.2.1 H1 → va_S (fun q => kb E ≤ q) s.heap H1 locs1 → W p l e R s m args below meth c H1 locs1 (cells + mc) (slots + ms) Q (F0 m (pc + 3) ls (wo.toList ++ rest))) : W p l e R s m args below meth c H locs cells slots Q (F0 m pc ls st0) := by
  intro T hT X
  rcases hr T hT X with ⟨v, st₀, t, T', L, h0, X', hL, e1, e2, ⟨⟨α', vo, wo, hp, hv, ho, hc, hRt⟩, hF⟩, st⟩ | ⟨q, st₀, t, T', L, Ex, ce, h0, X', hL, e1, e2, ⟨⟨α', k, hp, hk, hE, hRt⟩, hF⟩, hce, hcv, hcl, st⟩
  · cases ho
    obtain ⟨k1, k2, k3⟩ := vx_keep h0 e1 hV (fun _ _ h => h) (fun _ h => h) hL hF
    have hal : s.vm.Alike t.vm := by rw [← e2]; exact X'.warmed.alike
    have hR2 : kRep E s α' res1.2.1 T'.heap := by rw [e1]; exact hRt.moved hal.symm
    obtain ⟨t2, a1, b1⟩ := kk α' vo v T'.heap (locs ++ L) hp hv hc hR2 k3 T' rfl X'
    exact ⟨t2, st t2 a1, b1⟩
  · obtain ⟨k1, k2, k3⟩ := vx_keep h0 e1 hV (fun _ _ h => h) (fun _ h => h) hL hF
    have hal : s.vm.Alike t.vm := by rw [← e2]; exact X'.warmed.alike
    have hR2 : kRep E s α' res1.2.1 T'.heap := by rw [e1]; exact hRt.moved hal.symm
    obtain ⟨t2, a1, b1⟩ := kx α' k ce q T'.heap (locs ++ L) hp hk hR2 k3 (by rw [e1]; exact hce) hcv (by rw [hE]; exact hcl) T' rfl X'
    exact ⟨t2, st.trans a1, b1⟩
/-- what a call of the method gives the machine -/
def kRuns (E : kE) (p : Program) (l : Launch) (e : Env) (R : Room) (s : State) (m : MethodId) (args : Array Value) (below : List Frame) (meth : Method) (c : Code) (α0 : List Nat) (nL pc n : Nat) (args1 : List Value) (hs : kHS) (r : kRes) : Prop :=
  (hs.2.1 ≤ r.2.2.1 ∧ hs.2.2 ≤ r.2.2.2) ∧ ∀ (α : List Nat) (H : Heap) (locs : List Loc) (ls : Array Slot) (av rest : List Value) (cells slots : Nat), α0 <+: α → kRep E s α hs.1 H → va_S (fun q => kb E ≤ q) s.heap H locs → kvS α args1 = some av → args1.length = n → ls.size = nL → (rest.map fun v => v.category).sum ≤ 8 → cells + (r.2.2.1 - hs.2.1) ≤ R.cells → slots + (r.2.2.2 - hs.2.2) ≤ R.slots →
    vx_Run p l e R s m args below meth c H locs cells slots (r.2.2.1 - hs.2.1) (r.2.2.2 - hs.2.2) (F0 m pc ls (av.reverse ++ rest)) rest (kQc E α r av.toArray) (kXc E α r) (fun q => kb E ≤ q)
theorem ok_call {cl : kCall} {mi n : Nat} (C : kCx E XX σ zs p l e R s m args below meth c α0 cc nL nc0 ns0 res own ws) (hout : ∀ x ∈ c.exceptionTable.toList, False) {G : kFS → Prop} (hrun : ∀ (fs : kFS) (r : kRes), G fs → cl mi (fs.2.1.take n).reverse fs.2.2 = some r → kRuns E p l e R s m args below meth c α0 nL pc n (fs.2.1.take n).reverse fs.2.2 r) : ∀ (fs : kFS) (r : (Nat × kFS) ⊕ kRes), G fs → oCall cl mi n fs = some r → match r with
    | .inl q => fs.2.2.2.1 ≤ q.2.2.2.2.1 ∧ fs.2.2.2.2 ≤ q.2.2.2.2.2 ∧ (q.2.2.2.2.1 ≤ res.2.2.1 → q.2.2.2.2.2 ≤ res.2.2.2 → kW E p l e R s m args below meth c α0 nL nc0 ns0 (kQ E below args s α0 nc0 ns0 res) (kTo (pc + 3) q.1) q.2 → kW E p l e R s m args below meth c α0 nL nc0 ns0 (kQ E below args s α0 nc0 ns0 res) pc fs)
    | .inr q => fs.2.2.2.1 ≤ q.2.2.1 ∧ fs.2.2.2.2 ≤ q.2.2.2 ∧ (q = res → kW E p l e R s m args below meth c α0 nL nc0 ns0 (kQ E below args s α0 nc0 ns0 res) pc fs) := by
  intro fs r hG h
  obtain ⟨L, S, hs⟩ := fs
  unfold oCall at h
  cases hb : (Nat.ble n S.length && Nat.ble (ksz (S.drop n)) 8) with
  | false => dsimp only at h; rw [hb] at h; cases h
  | true =>
  dsimp only at h
  rw [hb] at h
  simp only [cond_true] at h
  simp only [Bool.and_eq_true] at hb
  have hn1 := Nat.le_of_ble_eq_true hb.1
  have hn2 := Nat.le_of_ble_eq_true hb.2
  have hRc := C.2.2.2.2.2.2.2.2.2.2.1
  have hRs := C.2.2.2.2.2.2.2.2.2.2.2.1
  have split1 : ∀ (α : List Nat) (st : List Value), kvS α S = some st → ∃ x y, st = x ++ y ∧ kvS α (S.take n) = some x ∧ kvS α (S.drop n) = some y ∧ x.length = n ∧ (y.map fun v => v.category).sum ≤ 8 := by
    intro α st hst
    obtain ⟨x, y, e1, e2, e3, e4⟩ := kvS_app (a := S.take n) (b := S.drop n) (by rw [List.take_append_drop]; exact hst)
    refine ⟨x, y, e1, e2, e3, by rw [e4, List.length_take]; omega, ?_⟩
    rw [kvS_ksz e3]
    exact hn2
  split at h
  · rename_i vo hs1 hcl
    cases h
    obtain ⟨⟨m1, m2⟩, hru⟩ := hrun (L, S, hs) _ hG hcl
    dsimp only at m1 m2
    refine ⟨m1, m2, fun b1 b2 k2 => ?_⟩
    intro α H locs ls lv st hp hR hV hL hl hst g1 g2
    dsimp only at b1 b2 g1 g2
    obtain ⟨x, y, rfl, ex, ey, ex2, ey2⟩ := split1 α st hst
    have hsy : (y.map fun v => v.category).sum ≤ 8 := ey2
    have hq := hru α H locs ls x.reverse y (hs.2.1 - nc0) (hs.2.2 - ns0) hp hR hV (kvS_rev ex) (by simp; omega) hl.1 hsy (by dsimp only; refine Nat.le_trans ?_ hRc; omega) (by dsimp only; refine Nat.le_trans ?_ hRs; omega)
    rw [List.reverse_reverse] at hq
    refine k_run hq hV (fun α' k ce q9 H1 locs1 z1 z2 z3 z4 z5 z6 z7 => by cases z2) (fun α' vo2 wo H1 locs1 z1 z2 z3 z4 z5 => ?_)
    cases z2
    have hst2 : kvS α' (vo.toList ++ S.drop n) = some (wo.toList ++ y) := by
      refine kvS_appM ?_ (kvS_mono z1 ey)
      cases vo with
      | none => cases z3; rfl
      | some v =>
        simp only [kvO, Option.map_eq_some_iff] at z3
        obtain ⟨w9, w1, w2⟩ := z3
        subst w2
        exact kvS_mk w1 rfl
    have k3 := k2 α' H1 locs1 ls lv (wo.toList ++ y) (List.IsPrefix.trans hp z1) z4 z5 (kvL_mono z1 hL) hl hst2 (by dsimp only; omega) (by dsimp only; omega)
    dsimp only at k3 ⊢
    rw [show hs.2.1 - nc0 + (hs1.2.1 - hs.2.1) = hs1.2.1 - nc0 by omega, show hs.2.2 - ns0 + (hs1.2.2 - hs.2.2) = hs1.2.2 - ns0 by omega]
    exact k3
  · rename_i k hs1 hcl
    cases h
    obtain ⟨⟨m1, m2⟩, hru⟩ := hrun (L, S, hs) _ hG hcl
    dsimp only at m1 m2
    refine ⟨m1, m2, fun hq => ?_⟩
    subst hq
    intro α H locs ls lv st hp hR hV hL hl hst g1 g2
    dsimp only at g1 g2 hRc hRs
    obtain ⟨x, y, rfl, ex, ey, ex2, ey2⟩ := split1 α st hst
    have hsy : (y.map fun v => v.category).sum ≤ 8 := ey2
    have hq := hru α H locs ls x.reverse y (hs.2.1 - nc0) (hs.2.2 - ns0) hp hR hV (kvS_rev ex) (by simp; omega) hl.1 hsy (by dsimp only; refine Nat.le_trans ?_ hRc; omega) (by dsimp only; refine Nat.le_trans ?_ hRs; omega)
    rw [List.reverse_reverse] at hq
    refine k_run hq hV (fun α' k2 ce q9 H1 locs1 z1 z2 z3 z4 z5 z6 z7 => ?_) (fun α' vo2 wo H1 locs1 z1 z2 z3 z4 z5 => by cases z2)
    cases z2
    refine vx_out (fun x hx => (hout x hx).elim) C.2.2.2.2.2.1 z5 z6 z7 (fun t ht hal => ⟨⟨α', k, List.IsPrefix.trans hp z1, rfl, rfl, by rw [ht]; exact z3.moved hal⟩, z4.F ht⟩) z4.2.2 (by dsimp only; omega) (by dsimp only; omega)
  · cases h
/-- PreS for a callee -/
theorem k_pre_s {α : List Nat} {H : Heap} {locs : List Loc} {args1 av : List Value} {hs : kHS} (C : kCx E XX σ zs p l e R s m args below meth c α0 cc nL nc0 ns0 res own ws) (hp : α0 <+: α) (hR : kRep E s α hs.1 H) (hV : va_S (fun q => kb E ≤ q) s.heap H locs) (ha : kvS α args1 = some av) : PreS s H (kPc E XX σ zs α args1 hs) av := by
  refine ⟨kPc_blind C.2.2.2.2.2.2.2.1, fun U hU hW => ⟨⟨av, ha, rfl⟩, by rw [hU]; exact hR.moved hW.alike, kKK.moved C.2.2.2.2.2.2.2.1 C.2.2.2.2.2.2.1 hW (by rw [hU]; exact hV.1) (fun q hq => ?_), List.IsPrefix.trans C.2.2.2.2.2.2.2.2.1 hp⟩⟩
  rw [hU]
  exact hV.2.1 q (Nat.lt_of_lt_of_le hq C.2.2.2.2.2.2.1.1.2.2) (by omega)
theorem ok_callS {cl : kCall} {mi n d maxL ix : Nat} {y : MethodName} {bytes : ByteArray} {ret : Option FieldType} {wy wy' : List Cond} (C : kCx E XX σ zs p l e R s m args below meth c α0 cc nL nc0 ns0 res own ws) (hout : ∀ x ∈ c.exceptionTable.toList, False) (hf : d + 9 ≤ R.frames) (hlo : 40 * d + 190 ≤ R.locals) (hM : ∀ args1 hs r, cl mi args1 hs = some r → kMet E XX σ zs l y wy d args1 hs r) (hw : wy = Cond.code y bytes maxL ret :: wy') (hG : GoodIn ws (va_wsS own ix y wy)) (hml : maxL ≤ 21) (hdn : y.cls ≠ "java/lang/invoke/MethodHandle" ∧ y.cls ≠ "java/lang/invoke/VarHandle" ∧ (parseMethodDescriptor y.desc).map (fun d => d.parameters.length) = some n) (hd : decode cc pc = .ok (.invokestatic ix, 3)) : kOK E p l e R s m args below meth c α0 nL nc0 ns0 res pc (kTo (pc + 3)) (oCall cl mi n) := by
  intro fs r h
  refine ok_call C hout (G := fun _ => True) (fun fs r _ hcl => ?_) fs r trivial h
  obtain ⟨m1, m2, hme⟩ := hM _ _ _ hcl
  refine ⟨⟨m1, m2⟩, fun α H locs ls av rest cells slots hp hR hV ha hn hls hsy hc1 hc2 => ?_⟩
  exact vx_runS (As := av) (rest := rest) ⟨C.1, C.2.1, C.2.2.1, C.2.2.2.1, C.2.2.2.2.1⟩ (hme α) (va_cwS n C.2.2.2.2.1 hG hw rfl rfl hdn ⟨by show d + 8 + 1 ≤ _; omega, by show 8 + (maxL + 11) + (40 * d + 150) ≤ _; omega⟩) (k_pre_s C hp hR hV ha) rfl ((kvS_len ha).trans hn) hls rfl (lv_room hsy) hd ⟨hc1, hc2⟩
/-- a private static method of a nest mate -/
theorem ok_callSN {cl : kCall} {mi n d maxL ix : Nat} {y : MethodName} {bytes : ByteArray} {ret : Option FieldType} {wy wy' : List Cond} {host : String} (C : kCx E XX σ zs p l e R s m args below meth c α0 cc nL nc0 ns0 res own ws) (hout : ∀ x ∈ c.exceptionTable.toList, False) (hf : d + 9 ≤ R.frames) (hlo : 40 * d + 190 ≤ R.locals) (hM : ∀ args1 hs r, cl mi args1 hs = some r → kMet E XX σ zs l y wy d args1 hs r) (hw : wy = Cond.code y bytes maxL ret :: wy') (hG : GoodIn ws wy) (hst : Cond.static y ∈ ws) (hini : Cond.initialized y.cls ∈ ws) (hl : va_Nw (.methodLinkNest own ix y host) s) (hml : maxL ≤ 21) (hdn : y.cls ≠ "java/lang/invoke/MethodHandle" ∧ y.cls ≠ "java/lang/invoke/VarHandle" ∧ (parseMethodDescriptor y.desc).map (fun d => d.parameters.length) = some n) (hd : decode cc pc = .ok (.invokestatic ix, 3)) : kOK E p l e R s m args below meth c α0 nL nc0 ns0 res pc (kTo (pc + 3)) (oCall cl mi n) := by
  intro fs r h
  refine ok_call C hout (G := fun _ => True) (fun fs r _ hcl => ?_) fs r trivial h
  obtain ⟨m1, m2, hme⟩ := hM _ _ _ hcl
  refine ⟨⟨m1, m2⟩, fun α H locs ls av rest cells slots hp hR hV ha hn hls hsy hc1 hc2 => ?_⟩
  exact vx_runSN (As := av) (rest := rest) ⟨C.1, C.2.1, C.2.2.1, C.2.2.2.1, C.2.2.2.2.1⟩ (hme α) ⟨va_cnB n C.2.2.2.2.1 hG hw rfl rfl hl (C.2.2.2.2.1 _ hini) hdn ⟨by show d + 8 + 1 ≤ _; omega, by show 8 + (maxL + 11) + (40 * d + 150) ≤ _; omega⟩, C.2.2.2.2.1 _ hst, trivial⟩ (k_pre_s C hp hR hV ha) rfl ((kvS_len ha).trans hn) hls rfl (lv_room hsy) hd ⟨hc1, hc2⟩
/-- a constructor -/
theorem ok_callI {cl : kCall} {mi n d maxL ix : Nat} {y : MethodName} {bytes : ByteArray} {wy wy' : List Cond} (C : kCx E XX σ zs p l e R s m args below meth c α0 cc nL nc0 ns0 res own ws) (hout : ∀ x ∈ c.exceptionTable.toList, False) (hf : d + 9 ≤ R.frames) (hlo : 40 * d + 190 ≤ R.locals) (hM : ∀ args1 hs r, cl mi args1 hs = some r → kMet E XX σ zs l y wy d args1 hs r) (hw : wy = Cond.code y bytes maxL none :: wy') (hG : GoodIn ws wy) (hini : Cond.initialized y.cls ∈ ws) (hl : Cond.methodLink own ix y ∈ ws) (hin : Cond.instanceMethod y ∈ ws) (hy1 : y.name = "<init>") (hml : maxL ≤ 21) (hdn : y.cls ≠ "java/lang/invoke/MethodHandle" ∧ y.cls ≠ "java/lang/invoke/VarHandle" ∧ (parseMethodDescriptor y.desc).map (fun d => d.parameters.length) = some n) (hd : decode cc pc = .ok (.invokespecial ix, 3)) : kOK E p l e R s m args below meth c α0 nL nc0 ns0 res pc (kTo (pc + 3)) (oCallI cl mi n) := by
  intro fs r h
  unfold oCallI at h
  split at h
  · rename_i a S1 hS
    refine ok_call C hout (G := fun fs => ∃ a S1, fs.2.1.drop n = .ref a :: S1) (fun fs r hg hcl => ?_) fs r ⟨a, S1, hS⟩ h
    obtain ⟨a, S1, hS⟩ := hg
    obtain ⟨m1, m2, hme⟩ := hM _ _ _ hcl
    refine ⟨⟨m1, m2⟩, fun α H locs ls av rest cells slots hp hR hV ha hn hls hsy hc1 hc2 => ?_⟩
    have e0 : (fs.2.1.take (n + 1)).reverse = .ref a :: (fs.2.1.take n).reverse := by
      rw [List.take_add, hS, List.reverse_append]
      rfl
    rw [e0] at ha hn
    obtain ⟨b, av', rfl, hb, hav⟩ := kvS_ref ha
    rw [List.reverse_cons, List.append_assoc]
    exact vx_runI (b := b) (As := av') (rest := rest) ⟨C.1, C.2.1, C.2.2.1, C.2.2.2.1, C.2.2.2.2.1⟩ (hme α) (cwI n C.2.2.2.2.1 hG hw rfl rfl (C.2.2.2.2.1 _ hini) (C.2.2.2.2.1 _ hl) (C.2.2.2.2.1 _ hin) hy1 hdn ⟨by show d + 8 + 1 ≤ _; omega, by show 8 + (maxL + 11) + (40 * d + 150) ≤ _; omega⟩) (by rw [e0]; exact k_pre_s C hp hR hV ha) rfl (by have h1 := kvS_len hav; have h2 : (List.take n fs.2.1).reverse.length + 1 = n + 1 := hn; omega) hls rfl (lv_room hsy) hd ⟨hc1, hc2⟩
  · cases h
/-- a method of an object whose class is the method's -/
theorem ok_callV {cl : kCall} {mi n d maxL ix ci nS : Nat} {y : MethodName} {bytes : ByteArray} {ret : Option FieldType} {wy wy' : List Cond} {r0 : vw_C} (C : kCx E XX σ zs p l e R s m args below meth c α0 cc nL nc0 ns0 res own ws) (hnS : kn E = nS) (hout : ∀ x ∈ c.exceptionTable.toList, False) (hf : d + 9 ≤ R.frames) (hlo : 40 * d + 190 ≤ R.locals) (hM : ∀ args1 hs r, cl mi args1 hs = some r → kMet E XX σ zs l y wy d args1 hs r) (hw : wy = Cond.code y bytes maxL ret :: wy') (hc : (kcl E)[ci]? = some r0) (hG : GoodIn ws (wsV own ix r0.1 y wy)) (hml : maxL ≤ 21) (hdn : y.cls = r0.1 ∧ y.cls ≠ "java/lang/invoke/MethodHandle" ∧ y.cls ≠ "java/lang/invoke/VarHandle" ∧ (parseMethodDescriptor y.desc).map (fun d => d.parameters.length) = some n) (hd : decode cc pc = .ok (.invokevirtual ix, 3)) : kOK E p l e R s m args below meth c α0 nL nc0 ns0 res pc (kTo (pc + 3)) (oCallV cl mi n ci nS) := by
  intro fs r h
  unfold oCallV at h
  split at h
  · rename_i a S1 hS
    split at h
    · rename_i q hq
      cases hb : Nat.beq q.1 ci with
      | false => rw [hb] at h; cases h
      | true =>
      rw [hb] at h
      refine ok_call C hout (G := fun fs => ∃ a S1 q, fs.2.1.drop n = .ref a :: S1 ∧ kcell nS fs.2.2.1 a = some q ∧ q.1 = ci) (fun fs r hg hcl => ?_) fs r ⟨a, S1, q, hS, hq, Nat.eq_of_beq_eq_true hb⟩ h
      obtain ⟨a, S1, q, hS, hq, hqc⟩ := hg
      obtain ⟨m1, m2, hme⟩ := hM _ _ _ hcl
      refine ⟨⟨m1, m2⟩, fun α H locs ls av rest cells slots hp hR hV ha hn hls hsy hc1 hc2 => ?_⟩
      have e0 : (fs.2.1.take (n + 1)).reverse = .ref a :: (fs.2.1.take n).reverse := by
        rw [List.take_add, hS, List.reverse_append]
        rfl
      have hpre := k_pre_s C hp hR hV ha
      rw [e0] at ha hn
      obtain ⟨b, av', rfl, hb, hav⟩ := kvS_ref ha
      rw [List.reverse_cons, List.append_assoc]
      obtain ⟨g1, g2⟩ := kcell_spec hq
      subst hnS
      obtain ⟨hb0, cell, q1, q3, q4⟩ := hR.at g1 g2 hb
      rw [hqc] at q4
      rcases q4 with ⟨rr, e1, e2, e3, e4⟩ | ⟨e1, -⟩
      · have hKn := C.2.2.2.2.2.2.1.2.1 ci _ hc
        exact vx_runV (b := b) (As := av') (rest := rest) ⟨C.1, C.2.1, C.2.2.1, C.2.2.2.1, C.2.2.2.2.1⟩ (hme α) (cwV n C.2.2.2.2.1 hG hw rfl rfl hdn ⟨by show d + 8 + 1 ≤ _; omega, by show 8 + (maxL + 11) + (40 * d + 150) ≤ _; omega⟩) ⟨hpre.1, ⟨cell, q1, by rw [q3]; rfl, by rw [e2]; exact hKn.2.1⟩, hpre.2⟩ rfl (by have h1 := kvS_len hav; have h2 : (List.take n fs.2.1).reverse.length + 1 = n + 1 := hn; omega) hls rfl (lv_room hsy) hd ⟨hc1, hc2⟩
      · exact absurd (k_classlt C hc) (by omega)
    · cases h
  · cases h
end KCALL
