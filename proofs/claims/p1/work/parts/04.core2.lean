/-! ===== what is given of the start; the judgement kW; what it means that an operation is right ===== -/
/-- what of the start stays: the classes, the tables that nobody writes -/
def kKK (E : kE) (XX : State → Prop) (σ : List Nat) (zs : List (String × String × Nat)) (U : State) : Prop :=
  ((kcl E).length ≤ 100 ∧ σ.length = kn E ∧ kb E ≤ U.heap.size) ∧ (∀ (c : Nat) (q : vw_C), (kcl E)[c]? = some q → u_Kn U q.1 q.2.1 q.2.2 (kdC E c) (kdI E c)) ∧
  (∀ (k a : Nat) (t : List Int32), σ[k]? = some a → (ktb E)[k]? = some t → (k ≤ 7 ∧ va_T .int a t.length (fun j => .int (t.getD j 0)) (fun q => kb E ≤ q) U U.heap) ∨ (k = 8 ∧ t = [] ∧ va_T (.object "java/lang/Object") a 0 (fun _ => .null) (fun q => kb E ≤ q) U U.heap) ∨ (9 ≤ k ∧ t = [])) ∧
  (∀ z ∈ zs, ∃ a, σ[z.2.2]? = some a ∧ va_Z z.1 z.2.1 "[I" (.ref a) (fun q => kb E ≤ q) U U.heap) ∧ XX U
/-- further facts of the start stay where the tables are alike and the cells below b are the same -/
def kStab (b : Nat) (XX : State → Prop) : Prop := ∀ u U : State, XX u → u.WarmedH U.vm → u.heap.size ≤ U.heap.size → b ≤ u.heap.size → (∀ q, q < b → U.heap[q]? = u.heap[q]?) → XX U
theorem kKK.moved {E : kE} {XX : State → Prop} {σ : List Nat} {zs : List (String × String × Nat)} {u U : State} (hst : kStab (kb E) XX) (h : kKK E XX σ zs u) (hW : u.WarmedH U.vm) (hz : u.heap.size ≤ U.heap.size) (hq : ∀ q, q < kb E → U.heap[q]? = u.heap[q]?) : kKK E XX σ zs U := by
  have hvm := hW.alike
  obtain ⟨⟨h1, h2, h3⟩, h4, h5, h6, h7⟩ := h
  have hk : ∀ a : Nat, a < u.heap.size → ¬ (kb E ≤ a) → U.heap[a]? = u.heap[a]? := fun a _ h => hq a (by omega)
  refine ⟨⟨h1, h2, by omega⟩, fun c q hc => u_Kn_moved hvm (h4 c q hc), fun k a t ha ht => by
    rcases h5 k a t ha ht with ⟨z1, z2⟩ | ⟨z1, z2, z3⟩ | z
    · exact Or.inl ⟨z1, (z2.moved hvm).kept hk⟩
    · exact Or.inr (Or.inl ⟨z1, z2, (z3.moved hvm).kept hk⟩)
    · exact Or.inr (Or.inr z), fun z hz => ?_, hst u U h7 hW hz h3 hq⟩
  obtain ⟨a, h8, h9⟩ := h6 z hz
  exact ⟨a, h8, (h9.moved hvm).kept hk⟩
/-- the names of what may be thrown -/
def kEx : Nat → String := fun k => match k with
  | 0 => "java/lang/IllegalArgumentException"
  | 1 => "java/lang/IllegalStateException"
  | _ => "java/lang/IndexOutOfBoundsException"
def kvO (α : List Nat) : Option Value → Option (Option Value)
  | none => some none
  | some v => (kv α v).map some
def kQc (E : kE) (α0 : List Nat) (res : kRes) : Array Value → State → Outcome → State → Prop := fun _ st o t =>
  (∃ (α : List Nat) (vo wo : Option Value), α0 <+: α ∧ res.1 = .inl vo ∧ o = .returned wo ∧ kvO α vo = some wo ∧ kRep E t α res.2.1 t.heap) ∧ va_F (fun q => kb E ≤ q) st t
def kXc (E : kE) (α0 : List Nat) (res : kRes) : String → State → State → Prop := fun Ex st t =>
  (∃ (α : List Nat) (k : Nat), α0 <+: α ∧ res.1 = .inr k ∧ kEx k = Ex ∧ kRep E t α res.2.1 t.heap) ∧ va_F (fun q => kb E ≤ q) st t
/-- from this place of the method, with these locals, this stack and this heap, the machine comes to the result -/
def kW (E : kE) (p : Program) (l : Launch) (e : Env) (R : Room) (s : State) (m : MethodId) (args : Array Value) (below : List Frame) (meth : Method) (c : Code) (α0 : List Nat) (nL nc0 ns0 : Nat) (Q : State → Prop) (pc : Nat) (fs : kFS) : Prop :=
  ∀ (α : List Nat) (H : Heap) (locs : List Loc) (ls : Array Slot) (lv : List (Nat × Value)) (st : List Value), α0 <+: α → kRep E s α fs.2.2.1 H → va_S (fun q => kb E ≤ q) s.heap H locs → kvL α fs.1 = some lv → lv_has ls nL lv → kvS α fs.2.1 = some st → nc0 ≤ fs.2.2.2.1 → ns0 ≤ fs.2.2.2.2 →
    W p l e R s m args below meth c H locs (fs.2.2.2.1 - nc0) (fs.2.2.2.2 - ns0) Q (F0 m pc ls st)
abbrev kQ (E : kE) (below : List Frame) (args : Array Value) (s : State) (α0 : List Nat) (nc0 ns0 : Nat) (res : kRes) : State → Prop :=
  vx_MQ below (kQc E α0 res) (kXc E α0 res) args s (res.2.2.1 - nc0) (res.2.2.2 - ns0) (fun q => kb E ≤ q)
/-- what a method's walk stands on -/
def kCx (E : kE) (XX : State → Prop) (σ : List Nat) (zs : List (String × String × Nat)) (p : Program) (l : Launch) (e : Env) (R : Room) (s : State) (m : MethodId) (args : Array Value) (below : List Frame) (meth : Method) (c : Code) (α0 : List Nat) (cc : ByteArray) (nL nc0 ns0 : Nat) (res : kRes) (own : String) (ws : List Cond) : Prop :=
  p.tables.exec = Jvm.exec ∧ c.code = cc ∧ c.maxLocals = nL ∧ s.vm.findClass own = some m.cls ∧ (∀ w ∈ ws, w.before args s = true) ∧ meth.locks = false ∧ kKK E XX σ zs s ∧ kStab (kb E) XX ∧ σ <+: α0 ∧ l.stackTraces = false ∧ res.2.2.1 - nc0 ≤ R.cells ∧ res.2.2.2 - ns0 ≤ R.slots ∧ 8 ≤ R.frames ∧ 150 ≤ R.locals
/-- an operation, or the end of a block: from pc; behind it the block b begins at pcs b -/
def kOK (E : kE) (p : Program) (l : Launch) (e : Env) (R : Room) (s : State) (m : MethodId) (args : Array Value) (below : List Frame) (meth : Method) (c : Code) (α0 : List Nat) (nL nc0 ns0 : Nat) (res : kRes) (pc : Nat) (pcs : Nat → Nat) (o : kOp) : Prop :=
  ∀ (fs : kFS) (r : (Nat × kFS) ⊕ kRes), o fs = some r → match r with
    | .inl q => fs.2.2.2.1 ≤ q.2.2.2.2.1 ∧ fs.2.2.2.2 ≤ q.2.2.2.2.2 ∧ (q.2.2.2.2.1 ≤ res.2.2.1 → q.2.2.2.2.2 ≤ res.2.2.2 → kW E p l e R s m args below meth c α0 nL nc0 ns0 (kQ E below args s α0 nc0 ns0 res) (pcs q.1) q.2 → kW E p l e R s m args below meth c α0 nL nc0 ns0 (kQ E below args s α0 nc0 ns0 res) pc fs)
    | .inr q => fs.2.2.2.1 ≤ q.2.2.1 ∧ fs.2.2.2.2 ≤ q.2.2.2 ∧ (q = res → kW E p l e R s m args below meth c α0 nL nc0 ns0 (kQ E below args s α0 nc0 ns0 res) pc fs)
/-- the one that goes on at pc' -/
abbrev kTo (pc' : Nat) : Nat → Nat := fun _ => pc'
section KOPS
variable {p : Program} {l : Launch} {e : Env} {R : Room} {s : State} {m : MethodId} {args : Array Value} {below : List Frame} {meth : Method} {c : Code}
variable {E : kE} {XX : State → Prop} {σ α0 : List Nat} {cc : ByteArray} {nL nc0 ns0 : Nat} {res : kRes} {pc pc' : Nat} {own : String} {ws : List Cond} {zs : List (String × String × Nat)}
/-- an operation on the stack alone -/
def oS (g : List Value → Option (List Value)) : kOp := fun fs => match g fs.2.1 with
  | some S => some (.inl (0, (fs.1, S, fs.2.2)))
  | none => none
theorem ok_S {g : List Value → Option (List Value)} (hg : ∀ S S', g S = some S' → ∀ (α : List Nat) (st : List Value), kvS α S = some st → ∃ st', kvS α S' = some st' ∧ ∀ (H : Heap) (locs : List Loc) (ce sl : Nat) (ls : Array Slot) (Q : State → Prop), W p l e R s m args below meth c H locs ce sl Q (F0 m pc' ls st') → W p l e R s m args below meth c H locs ce sl Q (F0 m pc ls st)) : kOK E p l e R s m args below meth c α0 nL nc0 ns0 res pc (kTo pc') (oS g) := by
  intro fs r h
  unfold oS at h
  split at h
  · rename_i S' hS
    cases h
    refine ⟨Nat.le_refl _, Nat.le_refl _, fun _ _ k => ?_⟩
    intro α H locs ls lv st hp hR hV hL hl hs h1 h2
    obtain ⟨st', h3, h4⟩ := hg _ _ hS α st hs
    exact h4 H locs _ _ ls _ (k α H locs ls lv st' hp hR hV hL hl h3 h1 h2)
  · cases h
def gBin (f : Int32 → Int32 → Int32) : List Value → Option (List Value) := fun S => match S with
  | .int y :: .int x :: r => some (.int (f x y) :: r)
  | _ => none
def oBin (f : Int32 → Int32 → Int32) : kOp := oS (gBin f)
theorem ok_bin {f : Int32 → Int32 → Int32} (hrow : ∀ (x y : Int32) (rest : List Value) (H : Heap) (locs : List Loc) (ce sl : Nat) (ls : Array Slot) (Q : State → Prop), W p l e R s m args below meth c H locs ce sl Q (F0 m pc' ls (.int (f x y) :: rest)) → W p l e R s m args below meth c H locs ce sl Q (F0 m pc ls (.int y :: .int x :: rest))) : kOK E p l e R s m args below meth c α0 nL nc0 ns0 res pc (kTo pc') (oBin f) := by
  refine ok_S fun S S' h α st hs => ?_
  unfold gBin at h
  split at h
  · rename_i y x r
    cases h
    obtain ⟨a, rfl, h2⟩ := kvS_int hs
    obtain ⟨b, rfl, h3⟩ := kvS_int h2
    exact ⟨.int (f x y) :: b, kvS_mk rfl h3, fun H locs ce sl ls Q k => hrow x y b H locs ce sl ls Q k⟩
  · cases h
theorem ok_iadd (C : kCx E XX σ zs p l e R s m args below meth c α0 cc nL nc0 ns0 res own ws) (hd : decode cc pc = .ok (.iadd, 1)) : kOK E p l e R s m args below meth c α0 nL nc0 ns0 res pc (kTo (pc + 1)) (oBin fun x y => x + y) := ok_bin fun x y rest H locs ce sl ls Q k => lv_iadd C.1 C.2.1 hd k
theorem ok_isub (C : kCx E XX σ zs p l e R s m args below meth c α0 cc nL nc0 ns0 res own ws) (hd : decode cc pc = .ok (.isub, 1)) : kOK E p l e R s m args below meth c α0 nL nc0 ns0 res pc (kTo (pc + 1)) (oBin fun x y => x - y) := ok_bin fun x y rest H locs ce sl ls Q k => lv_isub C.1 C.2.1 hd k
theorem ok_imul (C : kCx E XX σ zs p l e R s m args below meth c α0 cc nL nc0 ns0 res own ws) (hd : decode cc pc = .ok (.imul, 1)) : kOK E p l e R s m args below meth c α0 nL nc0 ns0 res pc (kTo (pc + 1)) (oBin fun x y => x * y) := ok_bin fun x y rest H locs ce sl ls Q k => lv_imul C.1 C.2.1 hd k
theorem ok_iand (C : kCx E XX σ zs p l e R s m args below meth c α0 cc nL nc0 ns0 res own ws) (hd : decode cc pc = .ok (.iand, 1)) : kOK E p l e R s m args below meth c α0 nL nc0 ns0 res pc (kTo (pc + 1)) (oBin fun x y => x &&& y) := ok_bin fun x y rest H locs ce sl ls Q k => lv_iand C.1 C.2.1 hd k
theorem ok_ior (C : kCx E XX σ zs p l e R s m args below meth c α0 cc nL nc0 ns0 res own ws) (hd : decode cc pc = .ok (.ior, 1)) : kOK E p l e R s m args below meth c α0 nL nc0 ns0 res pc (kTo (pc + 1)) (oBin fun x y => x ||| y) := ok_bin fun x y rest H locs ce sl ls Q k => lv_ior C.1 C.2.1 hd k
theorem ok_ishl (C : kCx E XX σ zs p l e R s m args below meth c α0 cc nL nc0 ns0 res own ws) (hd : decode cc pc = .ok (.ishl, 1)) : kOK E p l e R s m args below meth c α0 nL nc0 ns0 res pc (kTo (pc + 1)) (oBin fun x y => x <<< (y &&& 31)) := ok_bin fun x y rest H locs ce sl ls Q k => lv_ishl C.1 C.2.1 hd k
theorem ok_ishr (C : kCx E XX σ zs p l e R s m args below meth c α0 cc nL nc0 ns0 res own ws) (hd : decode cc pc = .ok (.ishr, 1)) : kOK E p l e R s m args below meth c α0 nL nc0 ns0 res pc (kTo (pc + 1)) (oBin fun x y => x >>> (y &&& 31)) := ok_bin fun x y rest H locs ce sl ls Q k => lv_ishr C.1 C.2.1 hd k
def gBin0 (f : Int32 → Int32 → Int32) : List Value → Option (List Value) := fun S => match S with
  | .int y :: .int x :: r => bif decide (y = 0) then none else some (.int (f x y) :: r)
  | _ => none
def oBin0 (f : Int32 → Int32 → Int32) : kOp := oS (gBin0 f)
theorem ok_bin0 {f : Int32 → Int32 → Int32} (hrow : ∀ (x y : Int32) (rest : List Value) (H : Heap) (locs : List Loc) (ce sl : Nat) (ls : Array Slot) (Q : State → Prop), ¬ y = 0 → W p l e R s m args below meth c H locs ce sl Q (F0 m pc' ls (.int (f x y) :: rest)) → W p l e R s m args below meth c H locs ce sl Q (F0 m pc ls (.int y :: .int x :: rest))) : kOK E p l e R s m args below meth c α0 nL nc0 ns0 res pc (kTo pc') (oBin0 f) := by
  refine ok_S fun S S' h α st hs => ?_
  unfold gBin0 at h
  split at h
  · rename_i y x r
    by_cases hy : y = 0
    · simp [hy] at h
    · simp only [hy, decide_false, cond_false] at h
      cases h
      obtain ⟨a, rfl, h2⟩ := kvS_int hs
      obtain ⟨b, rfl, h3⟩ := kvS_int h2
      exact ⟨.int (f x y) :: b, kvS_mk rfl h3, fun H locs ce sl ls Q k => hrow x y b H locs ce sl ls Q hy k⟩
  · cases h
theorem ok_idiv (C : kCx E XX σ zs p l e R s m args below meth c α0 cc nL nc0 ns0 res own ws) (hd : decode cc pc = .ok (.idiv, 1)) : kOK E p l e R s m args below meth c α0 nL nc0 ns0 res pc (kTo (pc + 1)) (oBin0 fun x y => x / y) := ok_bin0 fun x y rest H locs ce sl ls Q hy k => lv_idiv C.1 C.2.1 hd hy k
theorem ok_irem (C : kCx E XX σ zs p l e R s m args below meth c α0 cc nL nc0 ns0 res own ws) (hd : decode cc pc = .ok (.irem, 1)) : kOK E p l e R s m args below meth c α0 nL nc0 ns0 res pc (kTo (pc + 1)) (oBin0 fun x y => x - x / y * y) := ok_bin0 fun x y rest H locs ce sl ls Q hy k => lv_irem C.1 C.2.1 hd hy k
def gBinL (f : Int64 → Int64 → Int64) : List Value → Option (List Value) := fun S => match S with
  | .long y :: .long x :: r => some (.long (f x y) :: r)
  | _ => none
def oBinL (f : Int64 → Int64 → Int64) : kOp := oS (gBinL f)
theorem ok_binL {f : Int64 → Int64 → Int64} (hrow : ∀ (x y : Int64) (rest : List Value) (H : Heap) (locs : List Loc) (ce sl : Nat) (ls : Array Slot) (Q : State → Prop), W p l e R s m args below meth c H locs ce sl Q (F0 m pc' ls (.long (f x y) :: rest)) → W p l e R s m args below meth c H locs ce sl Q (F0 m pc ls (.long y :: .long x :: rest))) : kOK E p l e R s m args below meth c α0 nL nc0 ns0 res pc (kTo pc') (oBinL f) := by
  refine ok_S fun S S' h α st hs => ?_
  unfold gBinL at h
  split at h
  · rename_i y x r
    cases h
    obtain ⟨a, rfl, h2⟩ := kvS_long hs
    obtain ⟨b, rfl, h3⟩ := kvS_long h2
    exact ⟨.long (f x y) :: b, kvS_mk rfl h3, fun H locs ce sl ls Q k => hrow x y b H locs ce sl ls Q k⟩
  · cases h
theorem ok_ladd (C : kCx E XX σ zs p l e R s m args below meth c α0 cc nL nc0 ns0 res own ws) (hd : decode cc pc = .ok (.ladd, 1)) : kOK E p l e R s m args below meth c α0 nL nc0 ns0 res pc (kTo (pc + 1)) (oBinL fun x y => x + y) := ok_binL fun x y rest H locs ce sl ls Q k => lv_ladd C.1 C.2.1 hd k
theorem ok_lmul (C : kCx E XX σ zs p l e R s m args below meth c α0 cc nL nc0 ns0 res own ws) (hd : decode cc pc = .ok (.lmul, 1)) : kOK E p l e R s m args below meth c α0 nL nc0 ns0 res pc (kTo (pc + 1)) (oBinL fun x y => x * y) := ok_binL fun x y rest H locs ce sl ls Q k => lv_lmul C.1 C.2.1 hd k
theorem ok_lsub (C : kCx E XX σ zs p l e R s m args below meth c α0 cc nL nc0 ns0 res own ws) (hd : decode cc pc = .ok (.lsub, 1)) : kOK E p l e R s m args below meth c α0 nL nc0 ns0 res pc (kTo (pc + 1)) (oBinL fun x y => x - y) := ok_binL fun x y rest H locs ce sl ls Q k => lv_lsub C.1 C.2.1 hd k
def gBinL0 (f : Int64 → Int64 → Int64) : List Value → Option (List Value) := fun S => match S with
  | .long y :: .long x :: r => bif decide (y = 0) then none else some (.long (f x y) :: r)
  | _ => none
def oBinL0 (f : Int64 → Int64 → Int64) : kOp := oS (gBinL0 f)
theorem ok_binL0 {f : Int64 → Int64 → Int64} (hrow : ∀ (x y : Int64) (rest : List Value) (H : Heap) (locs : List Loc) (ce sl : Nat) (ls : Array Slot) (Q : State → Prop), ¬ y = 0 → W p l e R s m args below meth c H locs ce sl Q (F0 m pc' ls (.long (f x y) :: rest)) → W p l e R s m args below meth c H locs ce sl Q (F0 m pc ls (.long y :: .long x :: rest))) : kOK E p l e R s m args below meth c α0 nL nc0 ns0 res pc (kTo pc') (oBinL0 f) := by
  refine ok_S fun S S' h α st hs => ?_
  unfold gBinL0 at h
  split at h
  · rename_i y x r
    by_cases hy : y = 0
    · simp [hy] at h
    · simp only [hy, decide_false, cond_false] at h
      cases h
      obtain ⟨a, rfl, h2⟩ := kvS_long hs
      obtain ⟨b, rfl, h3⟩ := kvS_long h2
      exact ⟨.long (f x y) :: b, kvS_mk rfl h3, fun H locs ce sl ls Q k => hrow x y b H locs ce sl ls Q hy k⟩
  · cases h
theorem ok_ldiv (C : kCx E XX σ zs p l e R s m args below meth c α0 cc nL nc0 ns0 res own ws) (hd : decode cc pc = .ok (.ldiv, 1)) : kOK E p l e R s m args below meth c α0 nL nc0 ns0 res pc (kTo (pc + 1)) (oBinL0 fun x y => x / y) := ok_binL0 fun x y rest H locs ce sl ls Q hy k => lv_ldiv C.1 C.2.1 hd hy k
theorem ok_lrem (C : kCx E XX σ zs p l e R s m args below meth c α0 cc nL nc0 ns0 res own ws) (hd : decode cc pc = .ok (.lrem, 1)) : kOK E p l e R s m args below meth c α0 nL nc0 ns0 res pc (kTo (pc + 1)) (oBinL0 fun x y => x - x / y * y) := ok_binL0 fun x y rest H locs ce sl ls Q hy k => lv_lrem C.1 C.2.1 hd hy k
def gLcmp : List Value → Option (List Value) := fun S => match S with
  | .long y :: .long x :: r => some (.int (lg_cmp x y) :: r)
  | _ => none
theorem ok_lcmp (C : kCx E XX σ zs p l e R s m args below meth c α0 cc nL nc0 ns0 res own ws) (hd : decode cc pc = .ok (.lcmp, 1)) : kOK E p l e R s m args below meth c α0 nL nc0 ns0 res pc (kTo (pc + 1)) (oS gLcmp) := by
  refine ok_S fun S S' h α st hs => ?_
  unfold gLcmp at h
  split at h
  · cases h
    obtain ⟨a, rfl, h2⟩ := kvS_long hs
    obtain ⟨b, rfl, h3⟩ := kvS_long h2
    exact ⟨_, kvS_mk rfl h3, fun H locs ce sl ls Q k => W.lcmp C.1 C.2.1 hd k⟩
  · cases h
def gI2l : List Value → Option (List Value) := fun S => match S with
  | .int x :: r => some (.long x.toInt64 :: r)
  | _ => none
theorem ok_i2l (C : kCx E XX σ zs p l e R s m args below meth c α0 cc nL nc0 ns0 res own ws) (hd : decode cc pc = .ok (.i2l, 1)) : kOK E p l e R s m args below meth c α0 nL nc0 ns0 res pc (kTo (pc + 1)) (oS gI2l) := by
  refine ok_S fun S S' h α st hs => ?_
  unfold gI2l at h
  split at h
  · cases h
    obtain ⟨b, rfl, h3⟩ := kvS_int hs
    exact ⟨_, kvS_mk rfl h3, fun H locs ce sl ls Q k => lv_i2l C.1 C.2.1 hd rfl k⟩
  · cases h
def gL2i : List Value → Option (List Value) := fun S => match S with
  | .long x :: r => some (.int x.toInt32 :: r)
  | _ => none
theorem ok_l2i (C : kCx E XX σ zs p l e R s m args below meth c α0 cc nL nc0 ns0 res own ws) (hd : decode cc pc = .ok (.l2i, 1)) : kOK E p l e R s m args below meth c α0 nL nc0 ns0 res pc (kTo (pc + 1)) (oS gL2i) := by
  refine ok_S fun S S' h α st hs => ?_
  unfold gL2i at h
  split at h
  · cases h
    obtain ⟨b, rfl, h3⟩ := kvS_long hs
    exact ⟨_, kvS_mk rfl h3, fun H locs ce sl ls Q k => lv_l2i C.1 C.2.1 hd rfl k⟩
  · cases h
def gI2d : List Value → Option (List Value) := fun S => match S with
  | .int x :: r => some (.double (FP.i2d x) :: r)
  | _ => none
theorem ok_i2d (C : kCx E XX σ zs p l e R s m args below meth c α0 cc nL nc0 ns0 res own ws) (hd : decode cc pc = .ok (.i2d, 1)) : kOK E p l e R s m args below meth c α0 nL nc0 ns0 res pc (kTo (pc + 1)) (oS gI2d) := by
  refine ok_S fun S S' h α st hs => ?_
  unfold gI2d at h
  split at h
  · cases h
    obtain ⟨b, rfl, h3⟩ := kvS_int hs
    exact ⟨_, kvS_mk rfl h3, fun H locs ce sl ls Q k => lv_i2d C.1 C.2.1 hd k⟩
  · cases h
def gIneg : List Value → Option (List Value) := fun S => match S with
  | .int x :: r => some (.int (-x) :: r)
  | _ => none
theorem ok_ineg (C : kCx E XX σ zs p l e R s m args below meth c α0 cc nL nc0 ns0 res own ws) (hd : decode cc pc = .ok (.ineg, 1)) : kOK E p l e R s m args below meth c α0 nL nc0 ns0 res pc (kTo (pc + 1)) (oS gIneg) := by
  refine ok_S fun S S' h α st hs => ?_
  unfold gIneg at h
  split at h
  · cases h
    obtain ⟨b, rfl, h3⟩ := kvS_int hs
    exact ⟨_, kvS_mk rfl h3, fun H locs ce sl ls Q k => lv_ineg C.1 C.2.1 hd k⟩
  · cases h
def gDcmp (op : CmpOp) : List Value → Option (List Value) := fun S => match S with
  | .double y :: .double x :: r => some (.int (Op.cmpValue (FP.dcmp x y) op) :: r)
  | _ => none
theorem ok_dcmp {op : CmpOp} (C : kCx E XX σ zs p l e R s m args below meth c α0 cc nL nc0 ns0 res own ws) (hd : decode cc pc = .ok (.dcmp op, 1)) : kOK E p l e R s m args below meth c α0 nL nc0 ns0 res pc (kTo (pc + 1)) (oS (gDcmp op)) := by
  refine ok_S fun S S' h α st hs => ?_
  unfold gDcmp at h
  split at h
  · cases h
    obtain ⟨a, rfl, h2⟩ := kvS_double hs
    obtain ⟨b, rfl, h3⟩ := kvS_double h2
    exact ⟨_, kvS_mk rfl h3, fun H locs ce sl ls Q k => lv_dcmp C.1 C.2.1 hd k⟩
  · cases h
def gDdiv : List Value → Option (List Value) := fun S => match S with
  | .double y :: .double x :: r => bif decide (FP.ddiv x y &&& 0x7fffffffffffffff ≤ 0x7ff0000000000000) then some (.double (FP.ddiv x y) :: r) else none
  | _ => none
theorem ok_ddiv (C : kCx E XX σ zs p l e R s m args below meth c α0 cc nL nc0 ns0 res own ws) (hd : decode cc pc = .ok (.ddiv, 1)) : kOK E p l e R s m args below meth c α0 nL nc0 ns0 res pc (kTo (pc + 1)) (oS gDdiv) := by
  refine ok_S fun S S' h α st hs => ?_
  unfold gDdiv at h
  split at h
  · rename_i y x r
    by_cases hy : FP.ddiv x y &&& 0x7fffffffffffffff ≤ 0x7ff0000000000000
    · simp only [hy, decide_true, cond_true] at h
      cases h
      obtain ⟨a, rfl, h2⟩ := kvS_double hs
      obtain ⟨b, rfl, h3⟩ := kvS_double h2
      exact ⟨_, kvS_mk rfl h3, fun H locs ce sl ls Q k => lv_ddiv C.1 C.2.1 hd hy k⟩
    · simp [hy] at h
  · cases h
def gPush (v : Value) : List Value → Option (List Value) := fun S => some (v :: S)
theorem ok_push {v : Value} (hv : ∀ α, kv α v = some v) (hrow : ∀ (rest : List Value) (H : Heap) (locs : List Loc) (ce sl : Nat) (ls : Array Slot) (Q : State → Prop), W p l e R s m args below meth c H locs ce sl Q (F0 m pc' ls (v :: rest)) → W p l e R s m args below meth c H locs ce sl Q (F0 m pc ls rest)) : kOK E p l e R s m args below meth c α0 nL nc0 ns0 res pc (kTo pc') (oS (gPush v)) := by
  refine ok_S fun S S' h α st hs => ?_
  cases h
  exact ⟨_, kvS_mk (hv α) hs, fun H locs ce sl ls Q k => hrow st H locs ce sl ls Q k⟩
theorem ok_iconst {n : Int} {v : Int32} (C : kCx E XX σ zs p l e R s m args below meth c α0 cc nL nc0 ns0 res own ws) (hd : decode cc pc = .ok (.iconst n, 1)) (hv : Int32.ofInt n = v) : kOK E p l e R s m args below meth c α0 nL nc0 ns0 res pc (kTo (pc + 1)) (oS (gPush (.int v))) := ok_push (fun _ => rfl) fun rest H locs ce sl ls Q k => lv_iconst C.1 C.2.1 hd hv k
theorem ok_bipush {n : Int} {v : Int32} (C : kCx E XX σ zs p l e R s m args below meth c α0 cc nL nc0 ns0 res own ws) (hd : decode cc pc = .ok (.bipush n, 2)) (hv : (Int8.ofInt n).toInt32 = v) : kOK E p l e R s m args below meth c α0 nL nc0 ns0 res pc (kTo (pc + 2)) (oS (gPush (.int v))) := ok_push (fun _ => rfl) fun rest H locs ce sl ls Q k => lv_bipush C.1 C.2.1 hd hv k
theorem ok_sipush {n : Int} {v : Int32} (C : kCx E XX σ zs p l e R s m args below meth c α0 cc nL nc0 ns0 res own ws) (hd : decode cc pc = .ok (.sipush n, 3)) (hv : (Int16.ofInt n).toInt32 = v) : kOK E p l e R s m args below meth c α0 nL nc0 ns0 res pc (kTo (pc + 3)) (oS (gPush (.int v))) := ok_push (fun _ => rfl) fun rest H locs ce sl ls Q k => lv_sipush C.1 C.2.1 hd hv k
theorem ok_lconst {n : Fin 2} {v : Int64} (C : kCx E XX σ zs p l e R s m args below meth c α0 cc nL nc0 ns0 res own ws) (hd : decode cc pc = .ok (.lconst n, 1)) (hv : Int64.ofNat (n : Nat) = v) : kOK E p l e R s m args below meth c α0 nL nc0 ns0 res pc (kTo (pc + 1)) (oS (gPush (.long v))) := ok_push (fun _ => rfl) fun rest H locs ce sl ls Q k => lv_lconst C.1 C.2.1 hd hv k
theorem ok_dconst0 (C : kCx E XX σ zs p l e R s m args below meth c α0 cc nL nc0 ns0 res own ws) (hd : decode cc pc = .ok (.dconst 0, 1)) : kOK E p l e R s m args below meth c α0 nL nc0 ns0 res pc (kTo (pc + 1)) (oS (gPush (.double FP.dconst0))) := ok_push (fun _ => rfl) fun rest H locs ce sl ls Q k => lv_dconst0 C.1 C.2.1 hd k
theorem ok_null (C : kCx E XX σ zs p l e R s m args below meth c α0 cc nL nc0 ns0 res own ws) (hd : decode cc pc = .ok (.aconst_null, 1)) : kOK E p l e R s m args below meth c α0 nL nc0 ns0 res pc (kTo (pc + 1)) (oS (gPush .null)) := ok_push (fun _ => rfl) fun rest H locs ce sl ls Q k => lv_null C.1 C.2.1 hd k
theorem ok_ldc {v : Int32} {ix : Nat} (C : kCx E XX σ zs p l e R s m args below meth c α0 cc nL nc0 ns0 res own ws) (hd : decode cc pc = .ok (.ldc ix, 2)) (hw : Jvm.Cond.constant own ix v ∈ ws) : kOK E p l e R s m args below meth c α0 nL nc0 ns0 res pc (kTo (pc + 2)) (oS (gPush (.int v))) := ok_push (fun _ => rfl) fun rest H locs ce sl ls Q k => lv_ldc C.1 C.2.1 C.2.2.2.1 (C.2.2.2.2.1 _ hw) hd k
theorem ok_ldc2 {v : Int64} {ix : Nat} (C : kCx E XX σ zs p l e R s m args below meth c α0 cc nL nc0 ns0 res own ws) (hd : decode cc pc = .ok (.ldc2_w ix, 3)) (hw : Jvm.Cond.constantLong own ix v ∈ ws) : kOK E p l e R s m args below meth c α0 nL nc0 ns0 res pc (kTo (pc + 3)) (oS (gPush (.long v))) := ok_push (fun _ => rfl) fun rest H locs ce sl ls Q k => lv_ldc2 C.1 C.2.1 C.2.2.2.1 (C.2.2.2.2.1 _ hw) hd k
def gDup : List Value → Option (List Value) := fun S => match S with
  | v :: r => bif v.category == 1 then some (v :: v :: r) else none
  | _ => none
theorem ok_dup (C : kCx E XX σ zs p l e R s m args below meth c α0 cc nL nc0 ns0 res own ws) (hd : decode cc pc = .ok (.dup, 1)) : kOK E p l e R s m args below meth c α0 nL nc0 ns0 res pc (kTo (pc + 1)) (oS gDup) := by
  refine ok_S fun S S' h α st hs => ?_
  unfold gDup at h
  split at h
  · rename_i v r
    cases hq : (v.category == 1) with
    | false => rw [hq] at h; cases h
    | true =>
      rw [hq] at h
      cases h
      obtain ⟨w, b, rfl, h1, h2⟩ := kvS_cons hs
      exact ⟨_, kvS_mk h1 (kvS_mk h1 h2), fun H locs ce sl ls Q k => lv_dup C.1 C.2.1 hd (by rw [kv_cat h1]; simpa using hq) k⟩
  · cases h
def gPop : List Value → Option (List Value) := fun S => match S with
  | v :: r => bif v.category == 1 then some r else none
  | _ => none
theorem ok_pop (C : kCx E XX σ zs p l e R s m args below meth c α0 cc nL nc0 ns0 res own ws) (hd : decode cc pc = .ok (.pop, 1)) : kOK E p l e R s m args below meth c α0 nL nc0 ns0 res pc (kTo (pc + 1)) (oS gPop) := by
  refine ok_S fun S S' h α st hs => ?_
  unfold gPop at h
  split at h
  · rename_i v r
    cases hq : (v.category == 1) with
    | false => rw [hq] at h; cases h
    | true =>
      rw [hq] at h
      cases h
      obtain ⟨w, b, rfl, h1, h2⟩ := kvS_cons hs
      exact ⟨_, h2, fun H locs ce sl ls Q k => lv_pop C.1 C.2.1 hd (by rw [kv_cat h1]; simpa using hq) k⟩
  · cases h
def gDup2 : List Value → Option (List Value) := fun S => match S with
  | v :: u :: r => bif v.category == 1 && u.category == 1 then some (v :: u :: v :: u :: r) else none
  | _ => none
theorem ok_dup2 (C : kCx E XX σ zs p l e R s m args below meth c α0 cc nL nc0 ns0 res own ws) (hd : decode cc pc = .ok (.dup2, 1)) : kOK E p l e R s m args below meth c α0 nL nc0 ns0 res pc (kTo (pc + 1)) (oS gDup2) := by
  refine ok_S fun S S' h α st hs => ?_
  unfold gDup2 at h
  split at h
  · rename_i v u r
    cases hq : (v.category == 1 && u.category == 1) with
    | false => rw [hq] at h; cases h
    | true =>
      rw [hq] at h
      cases h
      simp only [Bool.and_eq_true, beq_iff_eq] at hq
      obtain ⟨w, b, rfl, h1, h2⟩ := kvS_cons hs
      obtain ⟨w2, b, rfl, h3, h4⟩ := kvS_cons h2
      exact ⟨_, kvS_mk h1 (kvS_mk h3 (kvS_mk h1 (kvS_mk h3 h4))), fun H locs ce sl ls Q k => lv_dup2_11 C.1 C.2.1 hd (by rw [kv_cat h1]; exact hq.1) (by rw [kv_cat h3]; exact hq.2) k⟩
  · cases h
def gDupX1 : List Value → Option (List Value) := fun S => match S with
  | v :: u :: r => bif v.category == 1 && u.category == 1 then some (v :: u :: v :: r) else none
  | _ => none
theorem ok_dupx1 (C : kCx E XX σ zs p l e R s m args below meth c α0 cc nL nc0 ns0 res own ws) (hd : decode cc pc = .ok (.dup_x1, 1)) : kOK E p l e R s m args below meth c α0 nL nc0 ns0 res pc (kTo (pc + 1)) (oS gDupX1) := by
  refine ok_S fun S S' h α st hs => ?_
  unfold gDupX1 at h
  split at h
  · rename_i v u r
    cases hq : (v.category == 1 && u.category == 1) with
    | false => rw [hq] at h; cases h
    | true =>
      rw [hq] at h
      cases h
      simp only [Bool.and_eq_true, beq_iff_eq] at hq
      obtain ⟨w, b, rfl, h1, h2⟩ := kvS_cons hs
      obtain ⟨w2, b, rfl, h3, h4⟩ := kvS_cons h2
      exact ⟨_, kvS_mk h1 (kvS_mk h3 (kvS_mk h1 h4)), fun H locs ce sl ls Q k => lv_dup_x1 C.1 C.2.1 hd (by rw [kv_cat h1]; exact hq.1) (by rw [kv_cat h3]; exact hq.2) k⟩
  · cases h
def gDupX2 : List Value → Option (List Value) := fun S => match S with
  | v :: u :: t :: r => bif v.category == 1 && (u.category == 1 && t.category == 1) then some (v :: u :: t :: v :: r) else none
  | _ => none
theorem ok_dupx2 (C : kCx E XX σ zs p l e R s m args below meth c α0 cc nL nc0 ns0 res own ws) (hd : decode cc pc = .ok (.dup_x2, 1)) : kOK E p l e R s m args below meth c α0 nL nc0 ns0 res pc (kTo (pc + 1)) (oS gDupX2) := by
  refine ok_S fun S S' h α st hs => ?_
  unfold gDupX2 at h
  split at h
  · rename_i v u t r
    cases hq : (v.category == 1 && (u.category == 1 && t.category == 1)) with
    | false => rw [hq] at h; cases h
    | true =>
      rw [hq] at h
      cases h
      simp only [Bool.and_eq_true, beq_iff_eq] at hq
      obtain ⟨w, b, rfl, h1, h2⟩ := kvS_cons hs
      obtain ⟨w2, b, rfl, h3, h4⟩ := kvS_cons h2
      obtain ⟨w3, b, rfl, h5, h6⟩ := kvS_cons h4
      exact ⟨_, kvS_mk h1 (kvS_mk h3 (kvS_mk h5 (kvS_mk h1 h6))), fun H locs ce sl ls Q k => lv_dup_x2 C.1 C.2.1 hd (by rw [kv_cat h1]; exact hq.1) (by rw [kv_cat h3]; exact hq.2.1) (by rw [kv_cat h5]; exact hq.2.2) k⟩
  · cases h
end KOPS
