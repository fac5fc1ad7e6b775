/-! ===== THE SMALL MACHINE: values, worlds, operations as functions; what it means that one is right ===== -/
/-- the component types of the arrays, by their tags -/
def kTy : Nat → FieldType := fun k => match k with
  | 100 => .int
  | 101 => .long
  | 102 => .double
  | 103 => .boolean
  | 104 => .array .int
  | 105 => .object "Bijectory$Chart"
  | 106 => .object "Bijectory$Walker"
  | 107 => .object "Bijectory$Claim"
  | 108 => .object "Bijectory$Realm"
  | _ => .object "java/lang/Object"
abbrev kCel : Type := Nat × List Value
abbrev kHS : Type := List kCel × Nat × Nat
abbrev kFS : Type := List (Nat × Value) × List Value × kHS
abbrev kRes : Type := (Option Value ⊕ Nat) × kHS
abbrev kOp : Type := kFS → Option ((Nat × kFS) ⊕ kRes)
abbrev kE : Type := List vw_C × (Nat → ClassId) × (Nat → Nat → Nat) × Nat × List (List Int32)
/-- a value by the addresses α -/
def kv (α : List Nat) : Value → Option Value
  | .ref k => (α[k]?).map Value.ref
  | v => some v
theorem kv_ref {α : List Nat} {k a : Nat} (h : α[k]? = some a) : kv α (.ref k) = some (.ref a) := by simp [kv, h]
theorem kv_refI {α : List Nat} {k : Nat} {w : Value} (h : kv α (.ref k) = some w) : ∃ a, α[k]? = some a ∧ w = .ref a := by
  simp only [kv, Option.map_eq_some_iff] at h
  obtain ⟨a, h1, h2⟩ := h
  exact ⟨a, h1, h2.symm⟩
theorem k_pre {α β : List Nat} {k a : Nat} (h : α[k]? = some a) (hp : α <+: β) : β[k]? = some a := by
  obtain ⟨t, rfl⟩ := hp
  rw [List.getElem?_append_left (List.getElem?_eq_some_iff.mp h).1]
  exact h
theorem kv_mono {α β : List Nat} {v w : Value} (h : kv α v = some w) (hp : α <+: β) : kv β v = some w := by
  cases v with
  | ref k =>
    obtain ⟨a, h1, rfl⟩ := kv_refI h
    exact kv_ref (k_pre h1 hp)
  | _ => exact h
theorem kv_cat {α : List Nat} {v w : Value} (h : kv α v = some w) : w.category = v.category := by
  cases v with
  | ref k =>
    obtain ⟨a, h1, rfl⟩ := kv_refI h
    rfl
  | _ => cases h; rfl
def kvS (α : List Nat) : List Value → Option (List Value)
  | [] => some []
  | v :: vs => match kv α v, kvS α vs with
    | some w, some ws => some (w :: ws)
    | _, _ => none
theorem kvS_cons {α : List Nat} {v : Value} {vs ws : List Value} (h : kvS α (v :: vs) = some ws) : ∃ w ws', ws = w :: ws' ∧ kv α v = some w ∧ kvS α vs = some ws' := by
  unfold kvS at h
  split at h
  · rename_i w ws' h1 h2
    cases h
    exact ⟨w, ws', rfl, h1, h2⟩
  · cases h
theorem kvS_mk {α : List Nat} {v w : Value} {vs ws : List Value} (h1 : kv α v = some w) (h2 : kvS α vs = some ws) : kvS α (v :: vs) = some (w :: ws) := by
  unfold kvS
  rw [h1, h2]
theorem kvS_mono {α β : List Nat} (hp : α <+: β) : ∀ {vs ws : List Value}, kvS α vs = some ws → kvS β vs = some ws
  | [], ws, h => h
  | v :: vs, ws, h => by
    obtain ⟨w, ws', rfl, h1, h2⟩ := kvS_cons h
    exact kvS_mk (kv_mono h1 hp) (kvS_mono hp h2)
theorem kvS_app {α : List Nat} : ∀ {a b ws : List Value}, kvS α (a ++ b) = some ws → ∃ x y, ws = x ++ y ∧ kvS α a = some x ∧ kvS α b = some y ∧ x.length = a.length
  | [], b, ws, h => ⟨[], ws, rfl, rfl, h, rfl⟩
  | v :: a, b, ws, h => by
    obtain ⟨w, ws', rfl, h1, h2⟩ := kvS_cons (by simpa using h)
    obtain ⟨x, y, rfl, h3, h4, h5⟩ := kvS_app h2
    exact ⟨w :: x, y, rfl, kvS_mk h1 h3, h4, by simp [h5]⟩
theorem kvS_appM {α : List Nat} : ∀ {a b x y : List Value}, kvS α a = some x → kvS α b = some y → kvS α (a ++ b) = some (x ++ y)
  | [], b, x, y, h1, h2 => by cases h1; exact h2
  | v :: a, b, x, y, h1, h2 => by
    obtain ⟨w, ws', rfl, h3, h4⟩ := kvS_cons h1
    exact kvS_mk h3 (kvS_appM h4 h2)
theorem kvS_rev {α : List Nat} : ∀ {a x : List Value}, kvS α a = some x → kvS α a.reverse = some x.reverse
  | [], x, h => by cases h; rfl
  | v :: a, x, h => by
    obtain ⟨w, ws', rfl, h3, h4⟩ := kvS_cons h
    rw [List.reverse_cons, List.reverse_cons]
    exact kvS_appM (kvS_rev h4) (kvS_mk h3 rfl)
theorem kvS_len {α : List Nat} : ∀ {a x : List Value}, kvS α a = some x → x.length = a.length
  | [], x, h => by cases h; rfl
  | v :: a, x, h => by
    obtain ⟨w, ws', rfl, h3, h4⟩ := kvS_cons h
    simp [kvS_len h4]
theorem kvS_cats {α : List Nat} : ∀ {a x : List Value}, kvS α a = some x → (x.map fun v => v.category).sum ≤ 2 * a.length
  | [], x, h => by cases h; simp
  | v :: a, x, h => by
    obtain ⟨w, ws', rfl, h3, h4⟩ := kvS_cons h
    have h5 := kvS_cats h4
    have h6 := lv_cat w
    simp only [List.map_cons, List.sum_cons, List.length_cons]
    omega
def ksz : List Value → Nat
  | [] => 0
  | v :: vs => v.category + ksz vs
theorem kvS_ksz {α : List Nat} : ∀ {a x : List Value}, kvS α a = some x → (x.map fun v => v.category).sum = ksz a
  | [], x, h => by cases h; rfl
  | v :: a, x, h => by
    obtain ⟨w, ws', rfl, h3, h4⟩ := kvS_cons h
    rw [List.map_cons, List.sum_cons, kvS_ksz h4, kv_cat h3]
    rfl
theorem kvS_int {α : List Nat} {x : Int32} {vs ws : List Value} (h : kvS α (.int x :: vs) = some ws) : ∃ ws', ws = .int x :: ws' ∧ kvS α vs = some ws' := by
  obtain ⟨w, ws', rfl, h1, h2⟩ := kvS_cons h
  cases h1
  exact ⟨ws', rfl, h2⟩
theorem kvS_long {α : List Nat} {x : Int64} {vs ws : List Value} (h : kvS α (.long x :: vs) = some ws) : ∃ ws', ws = .long x :: ws' ∧ kvS α vs = some ws' := by
  obtain ⟨w, ws', rfl, h1, h2⟩ := kvS_cons h
  cases h1
  exact ⟨ws', rfl, h2⟩
theorem kvS_double {α : List Nat} {x : UInt64} {vs ws : List Value} (h : kvS α (.double x :: vs) = some ws) : ∃ ws', ws = .double x :: ws' ∧ kvS α vs = some ws' := by
  obtain ⟨w, ws', rfl, h1, h2⟩ := kvS_cons h
  cases h1
  exact ⟨ws', rfl, h2⟩
theorem kvS_null {α : List Nat} {vs ws : List Value} (h : kvS α (.null :: vs) = some ws) : ∃ ws', ws = .null :: ws' ∧ kvS α vs = some ws' := by
  obtain ⟨w, ws', rfl, h1, h2⟩ := kvS_cons h
  cases h1
  exact ⟨ws', rfl, h2⟩
theorem kvS_ref {α : List Nat} {k : Nat} {vs ws : List Value} (h : kvS α (.ref k :: vs) = some ws) : ∃ a ws', ws = .ref a :: ws' ∧ α[k]? = some a ∧ kvS α vs = some ws' := by
  obtain ⟨w, ws', rfl, h1, h2⟩ := kvS_cons h
  obtain ⟨a, h3, rfl⟩ := kv_refI h1
  exact ⟨a, ws', rfl, h3, h2⟩
/-- the locals -/
def kvL (α : List Nat) : List (Nat × Value) → Option (List (Nat × Value))
  | [] => some []
  | q :: vs => match kv α q.2, kvL α vs with
    | some w, some ws => some ((q.1, w) :: ws)
    | _, _ => none
theorem kvL_cons {α : List Nat} {q : Nat × Value} {vs ws : List (Nat × Value)} (h : kvL α (q :: vs) = some ws) : ∃ w ws', ws = (q.1, w) :: ws' ∧ kv α q.2 = some w ∧ kvL α vs = some ws' := by
  unfold kvL at h
  split at h
  · rename_i w ws' h1 h2
    cases h
    exact ⟨w, ws', rfl, h1, h2⟩
  · cases h
theorem kvL_mk {α : List Nat} {i : Nat} {v w : Value} {vs ws : List (Nat × Value)} (h1 : kv α v = some w) (h2 : kvL α vs = some ws) : kvL α ((i, v) :: vs) = some ((i, w) :: ws) := by
  unfold kvL
  rw [h1, h2]
theorem kvL_mono {α β : List Nat} (hp : α <+: β) : ∀ {vs ws : List (Nat × Value)}, kvL α vs = some ws → kvL β vs = some ws
  | [], ws, h => h
  | v :: vs, ws, h => by
    obtain ⟨w, ws', rfl, h1, h2⟩ := kvL_cons h
    exact kvL_mk (kv_mono h1 hp) (kvL_mono hp h2)
/-- a filter that looks at places and categories alone -/
theorem kvL_filter {α : List Nat} (g : Nat × Value → Bool) (hg : ∀ i v w, w.category = v.category → g (i, w) = g (i, v)) : ∀ {vs ws : List (Nat × Value)}, kvL α vs = some ws → kvL α (vs.filter g) = some (ws.filter g)
  | [], ws, h => by cases h; rfl
  | q :: vs, ws, h => by
    obtain ⟨w, ws', rfl, h1, h2⟩ := kvL_cons h
    have h3 := kvL_filter g hg h2
    have h4 : g (q.1, w) = g q := hg q.1 q.2 w (kv_cat h1)
    rw [List.filter_cons, List.filter_cons, h4]
    by_cases hq : g q = true
    · rw [if_pos hq, if_pos hq]
      exact kvL_mk h1 h3
    · rw [if_neg hq, if_neg hq]
      exact h3
def kget : List (Nat × Value) → Nat → Option Value
  | [], _ => none
  | q :: l, i => bif q.1 == i then some q.2 else kget l i
theorem kget_spec {α : List Nat} : ∀ {L lv : List (Nat × Value)} {i : Nat} {v : Value}, kget L i = some v → kvL α L = some lv → ∃ w, kv α v = some w ∧ (i, w) ∈ lv
  | [], _, _, _, h, _ => by cases h
  | q :: L, lv, i, v, h, hl => by
    obtain ⟨w, ws', rfl, h1, h2⟩ := kvL_cons hl
    unfold kget at h
    cases hq : (q.1 == i) with
    | true =>
      rw [hq] at h
      cases h
      have : q.1 = i := by simpa using hq
      subst this
      exact ⟨w, h1, List.mem_cons_self⟩
    | false =>
      rw [hq] at h
      obtain ⟨w2, h3, h4⟩ := kget_spec h h2
      exact ⟨w2, h3, List.mem_cons_of_mem _ h4⟩
def kf1 (i : Nat) : Nat × Value → Bool := fun q => !(q.1 == i) && !(q.1 + 1 == i && q.2.category == 2)
def kf2 (i : Nat) : Nat × Value → Bool := fun q => !(q.1 == i) && (!(q.1 == i + 1) && !(q.1 + 1 == i && q.2.category == 2))
theorem kf1_cat (i : Nat) : ∀ (j : Nat) (v w : Value), w.category = v.category → kf1 i (j, w) = kf1 i (j, v) := by
  intro j v w h
  simp [kf1, h]
theorem kf2_cat (i : Nat) : ∀ (j : Nat) (v w : Value), w.category = v.category → kf2 i (j, w) = kf2 i (j, v) := by
  intro j v w h
  simp [kf2, h]
/-! worlds -/
def kcl (E : kE) : List vw_C := E.1
def kdC (E : kE) : Nat → ClassId := E.2.1
def kdI (E : kE) : Nat → Nat → Nat := E.2.2.1
def kb (E : kE) : Nat := E.2.2.2.1
def ktb (E : kE) : List (List Int32) := E.2.2.2.2
def kn (E : kE) : Nat := (ktb E).length
/-- an array's class, as the tables have it -/
def kAr (U : State) (cell : Cell) (ty : FieldType) : Prop := ∃ (kA : Class) (comp : ClassId), U.vm.classes[cell.cls]? = some kA ∧ kA.kind = .array comp ty ∧ (∀ C, ty = .object C → U.vm.findClass C = some comp) ∧ (ty = .int → U.vm.findClass "[I" = some cell.cls) ∧ (ty = .array .int → U.vm.findClass "[I" = some comp)
theorem kAr.moved {u U : State} {cell : Cell} {ty : FieldType} (hvm : u.vm.Alike U.vm) (h : kAr u cell ty) : kAr U cell ty := by
  obtain ⟨kA, comp, h1, h2, h3, h4, h5⟩ := h
  obtain ⟨k', hk', he⟩ := hvm.2.2 _ _ h1
  exact ⟨k', comp, hk', by rw [he]; exact h2, fun C hC => by rw [hvm.findClass]; exact h3 C hC, fun hC => by rw [hvm.findClass]; exact h4 hC, fun hC => by rw [hvm.findClass]; exact h5 hC⟩
theorem kAr.is {U : State} {cell : Cell} {ty : FieldType} (h : kAr U cell ty) (hv : cell.vm = .none) : U.isArrayOf cell ty := by
  obtain ⟨kA, comp, h1, h2, h3⟩ := h
  exact ⟨fun k h => (by rw [hv] at h; cases h), kA, h1, comp, h2⟩
/-- one cell -/
def kAt (E : kE) (U : State) (α : List Nat) (H : Heap) (a : Nat) (c : kCel) : Prop :=
  ∃ cell : Cell, H[a]? = some cell ∧ cell.vm = .none ∧
    ((∃ r : vw_C, (kcl E)[c.1]? = some r ∧ cell.cls = kdC E c.1 ∧ c.2.length = r.2.2 ∧ ∀ (j : Nat) (v : Value), c.2[j]? = some v → ∃ w, kv α v = some w ∧ cell.slots[kdI E c.1 j]? = some w) ∨
     (100 ≤ c.1 ∧ kAr U cell (kTy c.1) ∧ cell.slots.size = c.2.length ∧ ∀ (j : Nat) (v : Value), c.2[j]? = some v → ∃ w, kv α v = some w ∧ cell.slots[j]? = some w))
theorem kAt.moved {E : kE} {u U : State} {α : List Nat} {H : Heap} {a : Nat} {c : kCel} (hvm : u.vm.Alike U.vm) (h : kAt E u α H a c) : kAt E U α H a c := by
  obtain ⟨cell, h1, h2, h3⟩ := h
  refine ⟨cell, h1, h2, ?_⟩
  rcases h3 with h3 | ⟨g1, g2, g3⟩
  · exact Or.inl h3
  · exact Or.inr ⟨g1, g2.moved hvm, g3⟩
theorem kAt.kept {E : kE} {U : State} {α β : List Nat} {H H1 : Heap} {a : Nat} {c : kCel} (h : kAt E U α H a c) (hp : α <+: β) (hq : H1[a]? = H[a]?) : kAt E U β H1 a c := by
  obtain ⟨cell, h1, h2, h3⟩ := h
  refine ⟨cell, by rw [hq]; exact h1, h2, ?_⟩
  rcases h3 with ⟨r, g1, g2, g3, g4⟩ | ⟨g1, g2, g3, g4⟩
  · refine Or.inl ⟨r, g1, g2, g3, fun j v hv => ?_⟩
    obtain ⟨w, w1, w2⟩ := g4 j v hv
    exact ⟨w, kv_mono w1 hp, w2⟩
  · refine Or.inr ⟨g1, g2, g3, fun j v hv => ?_⟩
    obtain ⟨w, w1, w2⟩ := g4 j v hv
    exact ⟨w, kv_mono w1 hp, w2⟩
theorem kAt.lt {E : kE} {U : State} {α : List Nat} {H : Heap} {a : Nat} {c : kCel} (h : kAt E U α H a c) : a < H.size := by
  obtain ⟨cell, h1, h2⟩ := h
  exact (Array.getElem?_eq_some_iff.mp h1).1
/-- the heap -/
def kRep (E : kE) (U : State) (α : List Nat) (h : List kCel) (H : Heap) : Prop :=
  α.length = kn E + h.length ∧ (∀ i j a, kn E ≤ i → kn E ≤ j → α[i]? = some a → α[j]? = some a → i = j) ∧ ∀ (k : Nat) (c : kCel), h[k]? = some c → ∃ a, α[kn E + k]? = some a ∧ kb E ≤ a ∧ kAt E U α H a c
theorem kRep.moved {E : kE} {u U : State} {α : List Nat} {h : List kCel} {H : Heap} (hvm : u.vm.Alike U.vm) (hr : kRep E u α h H) : kRep E U α h H :=
  ⟨hr.1, hr.2.1, fun k c hk => by obtain ⟨a, h1, h2, h3⟩ := hr.2.2 k c hk; exact ⟨a, h1, h2, h3.moved hvm⟩⟩
/-- a reference to a cell of the heap -/
theorem kRep.at {E : kE} {U : State} {α : List Nat} {h : List kCel} {H : Heap} (hr : kRep E U α h H) {k a : Nat} {c : kCel} (hk : kn E ≤ k) (hc : h[k - kn E]? = some c) (ha : α[k]? = some a) : kb E ≤ a ∧ kAt E U α H a c := by
  obtain ⟨a', h1, h2, h3⟩ := hr.2.2 _ c hc
  rw [show kn E + (k - kn E) = k by omega, ha] at h1
  cases h1
  exact ⟨h2, h3⟩
/-- one cell changed in place -/
theorem kRep.put {E : kE} {U : State} {α : List Nat} {h : List kCel} {H H1 : Heap} (hr : kRep E U α h H) {k a : Nat} {c c' : kCel} (hk : kn E ≤ k) (hc : h[k - kn E]? = some c) (ha : α[k]? = some a) (hn : kAt E U α H1 a c') (oq : ∀ q, q ≠ a → H1[q]? = H[q]?) : kRep E U α (h.set (k - kn E) c') H1 := by
  have hl := (List.getElem?_eq_some_iff.mp hc).1
  refine ⟨by simpa using hr.1, hr.2.1, fun j d hj => ?_⟩
  by_cases e : j = k - kn E
  · subst e
    rw [List.getElem?_set_self hl] at hj
    cases hj
    exact ⟨a, by rw [show kn E + (k - kn E) = k by omega]; exact ha, (hr.at hk hc ha).1, hn⟩
  · rw [List.getElem?_set_ne (Ne.symm e)] at hj
    obtain ⟨x, h1, h2, h3⟩ := hr.2.2 j d hj
    refine ⟨x, h1, h2, h3.kept (List.prefix_refl _) (oq x fun z => e ?_)⟩
    subst z
    have := hr.2.1 (kn E + j) k x (by omega) hk h1 ha
    omega
/-- one cell more -/
theorem kRep.push {E : kE} {U : State} {α : List Nat} {h : List kCel} {H H1 : Heap} (hr : kRep E U α h H) {a : Nat} {c : kCel} (ha : H.size ≤ a) (hb : kb E ≤ H.size) (hn : kAt E U (α ++ [a]) H1 a c) (oq : ∀ q, q < H.size → H1[q]? = H[q]?) (hlt : ∀ i x, kn E ≤ i → α[i]? = some x → x < H.size) : kRep E U (α ++ [a]) (h ++ [c]) H1 := by
  refine ⟨by simp [hr.1]; omega, fun i j x hi hj h1 h2 => ?_, fun k d hk => ?_⟩
  · have key : ∀ i x, kn E ≤ i → (α ++ [a])[i]? = some x → (α[i]? = some x ∧ x < H.size) ∨ (i = α.length ∧ x = a) := by
      intro i x hi h1
      by_cases l : i < α.length
      · rw [List.getElem?_append_left l] at h1
        exact Or.inl ⟨h1, hlt i x hi h1⟩
      · rw [List.getElem?_append_right (by omega)] at h1
        have z : i - α.length < 1 := (List.getElem?_eq_some_iff.mp h1).1
        rw [show i - α.length = 0 by omega] at h1
        cases h1
        exact Or.inr ⟨by omega, rfl⟩
    rcases key i x hi h1 with ⟨g1, g2⟩ | ⟨g1, g2⟩ <;> rcases key j x hj h2 with ⟨f1, f2⟩ | ⟨f1, f2⟩
    · exact hr.2.1 i j x hi hj g1 f1
    · omega
    · omega
    · omega
  · by_cases l : k < h.length
    · rw [List.getElem?_append_left l] at hk
      obtain ⟨x, h1, h2, h3⟩ := hr.2.2 k d hk
      exact ⟨x, k_pre h1 (List.prefix_append _ _), h2, h3.kept (List.prefix_append _ _) (oq x h3.lt)⟩
    · rw [List.getElem?_append_right (by omega)] at hk
      have z : k - h.length < 1 := (List.getElem?_eq_some_iff.mp hk).1
      rw [show k - h.length = 0 by omega] at hk
      cases hk
      exact ⟨a, by rw [show kn E + k = α.length by have := hr.1; omega, List.getElem?_append_right (Nat.le_refl _), Nat.sub_self]; rfl, by omega, hn⟩
theorem kRep.lt {E : kE} {U : State} {α : List Nat} {h : List kCel} {H : Heap} (hr : kRep E U α h H) : ∀ i x, kn E ≤ i → α[i]? = some x → x < H.size := by
  intro i x hi hx
  have hl := (List.getElem?_eq_some_iff.mp hx).1
  have h1 := hr.1
  have h2 : i - kn E < h.length := by omega
  obtain ⟨-, h3⟩ := hr.at hi (List.getElem?_eq_getElem h2) hx
  exact h3.lt
