/-! ===== references in arrays, new objects, throws, calls ===== -/
/-- many cells more -/
theorem kRep.pushs {E : kE} {U : State} {α : List Nat} {h cs : List kCel} {H H1 : Heap} (hr : kRep E U α h H) (hb : kb E ≤ H.size) (hn : ∀ (i : Nat) (c : kCel), cs[i]? = some c → kAt E U (α ++ (List.range cs.length).map (fun i => H.size + i)) H1 (H.size + i) c) (oq : ∀ q, q < H.size → H1[q]? = H[q]?) : kRep E U (α ++ (List.range cs.length).map (fun i => H.size + i)) (h ++ cs) H1 := by
  have hlen := hr.1
  have hlt := hr.lt
  have hβ : ∀ i, i < cs.length → ((List.range cs.length).map (fun i => H.size + i))[i]? = some (H.size + i) := fun i hi => by
    rw [List.getElem?_map, List.getElem?_range hi]; rfl
  have key : ∀ i x, kn E ≤ i → (α ++ (List.range cs.length).map (fun i => H.size + i))[i]? = some x → (α[i]? = some x ∧ x < H.size) ∨ (α.length ≤ i ∧ x = H.size + (i - α.length)) := by
    intro i x hi h1
    by_cases l : i < α.length
    · rw [List.getElem?_append_left l] at h1
      exact Or.inl ⟨h1, hlt i x hi h1⟩
    · rw [List.getElem?_append_right (by omega)] at h1
      have z : i - α.length < ((List.range cs.length).map (fun i => H.size + i)).length := (List.getElem?_eq_some_iff.mp h1).1
      simp only [List.length_map, List.length_range] at z
      rw [hβ _ z] at h1
      exact Or.inr ⟨by omega, (Option.some.inj h1).symm⟩
  refine ⟨by simp [hlen]; omega, fun i j x hi hj h1 h2 => ?_, fun k d hk => ?_⟩
  · rcases key i x hi h1 with ⟨g1, g2⟩ | ⟨g1, g2⟩ <;> rcases key j x hj h2 with ⟨f1, f2⟩ | ⟨f1, f2⟩
    · exact hr.2.1 i j x hi hj g1 f1
    · omega
    · omega
    · omega
  · by_cases l : k < h.length
    · rw [List.getElem?_append_left l] at hk
      obtain ⟨x, h1, h2, h3⟩ := hr.2.2 k d hk
      exact ⟨x, k_pre h1 (List.prefix_append _ _), h2, h3.kept (List.prefix_append _ _) (oq x h3.lt)⟩
    · rw [List.getElem?_append_right (by omega)] at hk
      have z : k - h.length < cs.length := (List.getElem?_eq_some_iff.mp hk).1
      refine ⟨H.size + (k - h.length), ?_, by omega, hn _ _ hk⟩
      rw [List.getElem?_append_right (by omega), show kn E + k - α.length = k - h.length by omega]
      exact hβ _ z
theorem vr_outer' (c : ClassId) (N h0 : Nat) : ∀ i : Nat, (Jvm.Free.Multi.outerC c N h0 i).vm = .none ∧ (Jvm.Free.Multi.outerC c N h0 i).slots.size = N ∧ ∀ j, j < N → (Jvm.Free.Multi.outerC c N h0 i).slots[j]? = some (if j < i then .ref (h0 + 1 + j) else .null)
  | 0 => ⟨rfl, by simp [Jvm.Free.Multi.outerC], fun j hj => by simp [Jvm.Free.Multi.outerC, hj]⟩
  | i + 1 => by
    obtain ⟨h1, h2, h3⟩ := vr_outer' c N h0 i
    refine ⟨h1, ?_, fun j hj => ?_⟩
    · show ((Jvm.Free.Multi.outerC c N h0 i).slots.setIfInBounds i _).size = N
      simp [h2]
    · show ((Jvm.Free.Multi.outerC c N h0 i).slots.setIfInBounds i _)[j]? = _
      by_cases e : j = i
      · subst e
        rw [Array.getElem?_setIfInBounds_self_of_lt (by omega)]
        simp
      · rw [Array.getElem?_setIfInBounds_ne (Ne.symm e), h3 j hj]
        by_cases h : j < i
        · simp [h, Nat.lt_succ_of_lt h]
        · simp [h, show ¬ j < i + 1 by omega]
theorem vr_outer_cls (c : ClassId) (N h0 : Nat) : ∀ i : Nat, (Jvm.Free.Multi.outerC c N h0 i).cls = c
  | 0 => rfl
  | i + 1 => vr_outer_cls c N h0 i
def va_AOA (ty : FieldType) (U : State) : Prop := (Cond.arrayOver (.array ty)).before #[] U = true
theorem va_AOA.use {ty : FieldType} {A : Array Value} {U : State} (h : va_AOA ty U) : (Cond.arrayOver (.array ty)).before A U = true := h
theorem kTy_ref {t : Nat} (h : 104 ≤ t) : (kTy t).isReference = true := by
  unfold kTy
  split <;> first | rfl | omega
section KREF
variable {p : Program} {l : Launch} {e : Env} {R : Room} {s : State} {m : MethodId} {args : Array Value} {below : List Frame} {meth : Method} {c : Code}
variable {E : kE} {XX : State → Prop} {σ α0 : List Nat} {cc : ByteArray} {nL nc0 ns0 : Nat} {res : kRes} {pc pc' : Nat} {own : String} {ws : List Cond} {zs : List (String × String × Nat)}
def oAald (n : Nat) : kOp := fun fs => match fs.2.1 with
  | .int i :: .ref a :: S => (match kcell n fs.2.2.1 a with
      | some q => bif Nat.ble 104 q.1 then (match kidx q.2 i with
        | some v => some (.inl (0, (fs.1, v :: S, fs.2.2)))
        | none => none) else none
      | none => none)
  | _ => none
theorem ok_aaload {n : Nat} (C : kCx E XX σ zs p l e R s m args below meth c α0 cc nL nc0 ns0 res own ws) (hn : kn E = n) (hd : decode cc pc = .ok (.aaload, 1)) : kOK E p l e R s m args below meth c α0 nL nc0 ns0 res pc (kTo (pc + 1)) (oAald n) := by
  intro fs r h
  obtain ⟨L, S0, hh, nc, ns⟩ := fs
  unfold oAald at h
  split at h
  · rename_i i a S hS
    simp only at hS
    subst hS
    split at h
    · rename_i q hq
      cases hb : Nat.ble 104 q.1 with
      | false => rw [hb] at h; cases h
      | true =>
      rw [hb] at h
      simp only [cond_true] at h
      split at h
      · rename_i x hx
        cases h
        refine ⟨Nat.le_refl _, Nat.le_refl _, fun _ _ k2 => ?_⟩
        intro α H locs ls lv st hp hR hV hL hl hs h1 h2
        obtain ⟨st1, rfl, hs1⟩ := kvS_int hs
        obtain ⟨a1, st, rfl, ha, hs2⟩ := kvS_ref hs1
        obtain ⟨i1, i2⟩ := kidx_spec hx
        subst hn
        obtain ⟨g1, g2⟩ := kcell_spec hq
        obtain ⟨ha0, hat⟩ := hR.at g1 g2 ha
        have h104 := Nat.le_of_ble_eq_true hb
        obtain ⟨cell, q1, q3, q4, q5, q6⟩ := k_arr (tag := q.1) (by omega) C rfl hat
        obtain ⟨w, w1, w2⟩ := q6 _ _ i2
        refine W.aald C.1 C.2.1 q1 (q4.is q3) (kTy_ref h104) (by rw [q3]; exact fun h => by cases h) (by rw [q5]; exact i1) w2 rfl rfl hd ?_
        exact k2 α H locs ls lv _ hp hR hV hL hl (kvS_mk w1 hs2) h1 h2
      · cases h
    · cases h
  · cases h
/-- a reference to an object of the class ci into an array whose tag is t -/
def oAast (n t ci : Nat) : kOp := fun fs => match fs.2.1 with
  | .ref v :: .int i :: .ref a :: S => (match kcell n fs.2.2.1 a, kcell n fs.2.2.1 v with
      | some q, some u => bif Nat.beq q.1 t && Nat.beq u.1 ci then (match kidx q.2 i with
        | some _ => some (.inl (0, (fs.1, S, (fs.2.2.1.set (a - n) (q.1, q.2.set i.toNatClampNeg (.ref v)), fs.2.2.2))))
        | none => none) else none
      | _, _ => none)
  | _ => none
theorem ok_aastore {n t ci : Nat} {r0 : vw_C} {Cn : String} (C : kCx E XX σ zs p l e R s m args below meth c α0 cc nL nc0 ns0 res own ws) (hn : kn E = n) (h100 : 100 ≤ t) (hty : kTy t = .object Cn) (hc : (kcl E)[ci]? = some r0) (hasg : ∀ comp, s.vm.findClass Cn = some comp → s.vm.assignable (kdC E ci) comp = true) (hd : decode cc pc = .ok (.aastore, 1)) : kOK E p l e R s m args below meth c α0 nL nc0 ns0 res pc (kTo (pc + 1)) (oAast n t ci) := by
  intro fs r h
  obtain ⟨L, S0, hh, nc, ns⟩ := fs
  unfold oAast at h
  split at h
  · rename_i v i a S hS
    simp only at hS
    subst hS
    split at h
    · rename_i q u hq hu
      cases hb : (Nat.beq q.1 t && Nat.beq u.1 ci) with
      | false => rw [hb] at h; cases h
      | true =>
      rw [hb] at h
      simp only [Bool.and_eq_true] at hb
      simp only [cond_true] at h
      split at h
      · rename_i y hx
        cases h
        refine ⟨Nat.le_refl _, Nat.le_refl _, fun _ _ k2 => ?_⟩
        intro α H locs ls lv st hp hR hV hL hl hs h1 h2
        obtain ⟨v1, st0, rfl, hv, hs0⟩ := kvS_ref hs
        obtain ⟨st1, rfl, hs1⟩ := kvS_int hs0
        obtain ⟨a1, st, rfl, ha, hs2⟩ := kvS_ref hs1
        obtain ⟨i1, i2⟩ := kidx_spec hx
        subst hn
        obtain ⟨g1, g2⟩ := kcell_spec hq
        obtain ⟨f1, f2⟩ := kcell_spec hu
        obtain ⟨ha0, hat⟩ := hR.at g1 g2 ha
        obtain ⟨hv0, hvt⟩ := hR.at f1 f2 hv
        have hq1 : q.1 = t := Nat.eq_of_beq_eq_true hb.1
        have hu1 : u.1 = ci := Nat.eq_of_beq_eq_true hb.2
        obtain ⟨cell, q1, q3, q4, q5, q6⟩ := k_arr h100 C hq1 hat
        obtain ⟨cv, u1, u3, u4⟩ := hvt
        rw [hu1] at u4
        have hil := (List.getElem?_eq_some_iff.mp i2).1
        rcases u4 with ⟨rr, e1, e2, e3, e4⟩ | ⟨e1, -⟩
        · obtain ⟨kA, comp, z1, z2, z3⟩ := q4
          have hfc := z3.1 Cn hty
          obtain ⟨kcomp, hkc, -⟩ := Vm.findClass_spec hfc
          obtain ⟨-, -, kV, hkV, -⟩ := C.2.2.2.2.2.2.1.2.1 ci _ hc
          refine W.aast C.1 C.2.1 q1 (fun q h => by rw [q3] at h; cases h) (by rw [q3]; exact fun h => by cases h) z1 z2 (by rw [hty]; rfl) hkc ⟨fun z => i1 (Or.inl z), by rw [q5]; exact hil⟩ u1 (fun q h => by rw [u3] at h; cases h) (by rw [e2]; exact hkV) (by rw [e2]; exact hasg comp hfc) rfl rfl hd fun H' e5 e6 e7 => ?_
          exact k2 α H' _ ls lv st hp (hR.put g1 g2 ha (k_elem (by omega) q3 (by rw [hq1]; exact ⟨kA, comp, z1, z2, z3⟩) q5 q6 hil (kv_ref hv) e5) e7) (hV.put e6 e7 ha0) hL hl hs2 h1 h2
        · exact absurd (k_classlt C hc) (by omega)
      · cases h
    · cases h
  · cases h
def oNewq (n tag : Nat) : kOp := oNewa n tag
theorem ok_newq {n tag ix : Nat} {Cn : String} (C : kCx E XX σ zs p l e R s m args below meth c α0 cc nL nc0 ns0 res own ws) (hn : kn E = n) (h100 : 104 ≤ tag) (hty : kTy tag = .object Cn) (hw : Cond.classLink own ix Cn ∈ ws) (hov : va_AO Cn s) (hd : decode cc pc = .ok (.anewarray ix, 3)) : kOK E p l e R s m args below meth c α0 nL nc0 ns0 res pc (kTo (pc + 3)) (oNewq n tag) := by
  intro fs r h
  obtain ⟨L, S0, hh, nc, ns⟩ := fs
  unfold oNewq oNewa at h
  split at h
  · rename_i i S hS
    simp only at hS
    subst hS
    cases hb : (decide (i < 0) || Nat.blt 1000000 i.toNatClampNeg) with
    | true => rw [hb] at h; cases h
    | false =>
    rw [hb] at h
    cases h
    simp only [Bool.or_eq_false_iff, decide_eq_false_iff_not] at hb
    have hle : i.toNatClampNeg ≤ 1000000 := by
      have h9 := hb.2
      unfold Nat.blt at h9
      have := Nat.not_le_of_not_ble_eq_true (by rw [h9]; decide)
      omega
    refine ⟨Nat.le_succ _, Nat.le_add_right _ _, fun b1 b2 k2 => ?_⟩
    intro α H locs ls lv st hp hR hV hL hl hs h1 h2
    dsimp only at b1 b2 h1 h2
    obtain ⟨st, rfl, hs2⟩ := kvS_int hs
    subst hn
    have hRc := C.2.2.2.2.2.2.2.2.2.2.1
    have hRs := C.2.2.2.2.2.2.2.2.2.2.2.1
    have hc1 : nc - nc0 + 1 ≤ R.cells := by refine Nat.le_trans ?_ hRc; omega
    have hc2 : ns - ns0 + i.toNatClampNeg ≤ R.slots := by refine Nat.le_trans ?_ hRs; omega
    refine W.anew C.1 C.2.1 C.2.2.2.1 (C.2.2.2.2.1 _ hw) (va_AO.use hov) rfl hd rfl hb.1 (by omega) hc1 hc2 fun cA kA comp f1 f2 f3 f4 => ?_
    generalize hH1 : H.push ({ cls := cA, slots := Array.replicate i.toNatClampNeg .null, vm := .none } : Cell) = H1
    have z1 : H1.size = H.size + 1 := by rw [← hH1, Array.size_push]
    have e1 : H1[H.size]? = some ({ cls := cA, slots := Array.replicate i.toNatClampNeg .null, vm := .none } : Cell) := by rw [← hH1, Array.getElem?_push_size]
    have o1 : ∀ q : Nat, q < H.size → H1[q]? = H[q]? := fun q hq => by rw [← hH1, Array.getElem?_push, if_neg (Nat.ne_of_lt hq)]
    have hbH : kb E ≤ H.size := Nat.le_trans C.2.2.2.2.2.2.1.1.2.2 hV.1
    have hdn : kdef tag = .null := by
      unfold kdef
      split <;> first | rfl | omega
    have hat : kAt E s (α ++ [H.size]) H1 H.size (tag, List.replicate i.toNatClampNeg (kdef tag)) := by
      refine ⟨_, e1, rfl, Or.inr ⟨(show 100 ≤ tag by omega), ⟨kA, comp, f2, by rw [f3, hty], fun Dn hDn => ?_, fun hI => (by rw [show kTy (tag, List.replicate i.toNatClampNeg (kdef tag)).1 = kTy tag from rfl, hty] at hI; cases hI), fun hI => (by rw [show kTy (tag, List.replicate i.toNatClampNeg (kdef tag)).1 = kTy tag from rfl, hty] at hI; cases hI)⟩, by simp, fun j v hj => ?_⟩⟩
      · rw [show (tag, List.replicate i.toNatClampNeg (kdef tag)).1 = tag from rfl, hty] at hDn
        cases hDn
        exact f4
      · obtain ⟨hjl, hje⟩ := List.getElem?_eq_some_iff.mp hj
        simp at hjl hje
        subst hje
        refine ⟨kdef tag, kdef_cv tag, ?_⟩
        show (Array.replicate i.toNatClampNeg Value.null)[j]? = _
        rw [hdn]
        simp [hjl]
    have hpp := List.prefix_append α [H.size]
    have k3 := k2 (α ++ [H.size]) H1 locs ls lv (.ref H.size :: st) (List.IsPrefix.trans hp hpp) (hR.push (Nat.le_refl _) hbH hat o1 hR.lt) ⟨by rw [z1]; exact Nat.le_succ_of_le hV.1, fun x g1 g2 => (o1 x (Nat.lt_of_lt_of_le g1 hV.1)).trans (hV.2.1 x g1 g2), hV.2.2⟩ (kvL_mono hpp hL) hl (kvS_mk (kv_ref (by
      show (α ++ [H.size])[kn E + hh.length]? = _
      rw [show kn E + hh.length = α.length by have := hR.1; dsimp only at this; omega, List.getElem?_append_right (Nat.le_refl _), Nat.sub_self]; rfl)) (kvS_mono hpp hs2)) (by dsimp only; omega) (by dsimp only; omega)
    dsimp only at k3 ⊢
    rw [show nc - nc0 + 1 = nc + 1 - nc0 by omega, show ns - ns0 + i.toNatClampNeg = ns + i.toNatClampNeg - ns0 by omega]
    exact k3
  · cases h
/-- new int[n][k] -/
def oMna (n : Nat) : kOp := fun fs => match fs.2.1 with
  | .int k :: .int i :: S => bif decide (i < 0) || (decide (k < 0) || (Nat.blt 1000 i.toNatClampNeg || Nat.blt 1000 k.toNatClampNeg)) then none else
      some (.inl (0, (fs.1, .ref (n + fs.2.2.1.length) :: S, (fs.2.2.1 ++ ((104, (List.range i.toNatClampNeg).map (fun j => Value.ref (n + fs.2.2.1.length + 1 + j))) :: List.replicate i.toNatClampNeg (100, List.replicate k.toNatClampNeg (.int 0))), fs.2.2.2.1 + 1 + i.toNatClampNeg, fs.2.2.2.2 + i.toNatClampNeg + i.toNatClampNeg * k.toNatClampNeg))))
  | _ => none
theorem k_mna {ix : Nat} (C : kCx E XX σ zs p l e R s m args below meth c α0 cc nL nc0 ns0 res own ws) (hw : Cond.classLink own ix ("[" ++ (FieldType.array .int).toString) ∈ ws) (hov : va_AOA .int s) (hwa : Cond.arrayClass .int ∈ ws) (hd : decode cc pc = .ok (.multianewarray ix 2, 4)) {i k : Int32} {H : Heap} {locs : List Loc} {cells slots : Nat} {ls : Array Slot} {st : List Value} {Q : State → Prop} (hi : ¬ i < 0) (hk : ¬ k < 0) (hi2 : i.toNatClampNeg ≤ 1000) (hk2 : k.toNatClampNeg ≤ 1000) (hc1 : cells + (1 + i.toNatClampNeg) ≤ R.cells) (hc2 : slots + (i.toNatClampNeg + i.toNatClampNeg * k.toNatClampNeg) ≤ R.slots)
    (kk : ∀ (H1 : Heap) (co cy : Cell), H1.size = H.size + 1 + i.toNatClampNeg → (∀ q, q < H.size → H1[q]? = H[q]?) → H1[H.size]? = some co → co.vm = .none → kAr s co (.array .int) → co.slots.size = i.toNatClampNeg → (∀ j, j < i.toNatClampNeg → co.slots[j]? = some (.ref (H.size + 1 + j))) → (∀ j, j < i.toNatClampNeg → H1[H.size + 1 + j]? = some cy) → cy.vm = .none → kAr s cy .int → cy.slots = Array.replicate k.toNatClampNeg (.int 0) →
      W p l e R s m args below meth c H1 locs (cells + 1 + i.toNatClampNeg) (slots + i.toNatClampNeg + i.toNatClampNeg * k.toNatClampNeg) Q (F0 m (pc + 4) ls (.ref H.size :: st))) : W p l e R s m args below meth c H locs cells slots Q (F0 m pc ls (.int k :: .int i :: st)) := by
  intro T hT Xs
  obtain ⟨comp9, c9, k9, hq1, -, hq3, hq4, hq5⟩ := arrayOverA_spec (va_AOA.use (A := args) hov)
  obtain ⟨vm₁, cA, cy, -, fA, fC, hO, hI, X', step⟩ := Xs.multianewarray2F C.1 C.2.2.2.1 (C.2.2.2.2.1 _ hw) (va_AOA.use hov) (C.2.2.2.2.1 _ hwa) (g := F0 m pc ls (.int k :: .int i :: st)) rfl (by rw [C.2.1]; exact hd) rfl hi hk (by omega) (by show k.toNatClampNeg * 4 ≤ _; omega) (by omega) rfl rfl hc1 hc2
  generalize hF : Jvm.Free.Multi.fill (T.setVm vm₁) cA cy i.toNatClampNeg k.toNatClampNeg (defaultValue .int) i.toNatClampNeg = F at X' step
  have hTh : (T.setVm vm₁).heap = H := hT
  obtain ⟨f1, f2, -, -⟩ := Jvm.Free.Multi.fill_facts (T.setVm vm₁) cA cy i.toNatClampNeg k.toNatClampNeg (defaultValue .int) i.toNatClampNeg
  rw [hF, hTh] at f1 f2
  have hold : ∀ x : Nat, x < H.size → F.heap[x]? = H[x]? := fun x hx => by
    have := Jvm.Free.Multi.fill_old (T.setVm vm₁) cA cy i.toNatClampNeg k.toNatClampNeg (defaultValue .int) (a := x) (by rw [hTh]; exact hx) i.toNatClampNeg
    rw [hF, hTh] at this
    exact this
  have hrow : ∀ j : Nat, j < i.toNatClampNeg → F.heap[H.size + 1 + j]? = some (Jvm.Free.Multi.innerC cy k.toNatClampNeg (defaultValue .int)) := fun j hj => by
    have := Jvm.Free.Multi.fill_inner (T.setVm vm₁) cA cy i.toNatClampNeg k.toNatClampNeg (defaultValue .int) i.toNatClampNeg j hj
    rw [hF, hTh] at this
    exact this
  have hout := vr_outer' cA i.toNatClampNeg H.size i.toNatClampNeg
  obtain ⟨o1, o2, o3⟩ := hout
  obtain ⟨-, kO, hkO, cmO, hkkO⟩ := (hO i.toNatClampNeg H.size i.toNatClampNeg).1
  obtain ⟨-, kI, hkI, cmI, hkkI⟩ := (hI k.toNatClampNeg (defaultValue .int)).1
  obtain ⟨t, a1, b1⟩ := kk F.heap _ _ (by rw [f1]) hold f2 o1 ⟨kO, cmO, hkO, hkkO, fun Cn h => (by cases h), fun h => (by cases h), fun _ => (by
    cases fA.symm.trans hq5
    rw [vr_outer_cls] at hkO
    cases Option.some.inj (hq3.symm.trans hkO)
    rw [hq4] at hkkO
    cases hkkO
    exact hq1)⟩ o2 (fun j hj => by rw [o3 j hj, if_pos hj]) hrow rfl ⟨kI, cmI, hkI, hkkI, fun Cn h => (by cases h), fun _ => fC, fun h => (by cases h)⟩ rfl F rfl X'
  refine ⟨t, step t ?_, b1⟩
  rw [show T.heap.size = H.size by rw [hT]]
  exact a1
theorem ok_mna {n ix : Nat} (C : kCx E XX σ zs p l e R s m args below meth c α0 cc nL nc0 ns0 res own ws) (hn : kn E = n) (hw : Cond.classLink own ix ("[" ++ (FieldType.array .int).toString) ∈ ws) (hov : va_AOA .int s) (hwa : Cond.arrayClass .int ∈ ws) (hd : decode cc pc = .ok (.multianewarray ix 2, 4)) : kOK E p l e R s m args below meth c α0 nL nc0 ns0 res pc (kTo (pc + 4)) (oMna n) := by
  intro fs r h
  obtain ⟨L, S0, hh, nc, ns⟩ := fs
  unfold oMna at h
  split at h
  · rename_i k i S hS
    simp only at hS
    subst hS
    cases hb : (decide (i < 0) || (decide (k < 0) || (Nat.blt 1000 i.toNatClampNeg || Nat.blt 1000 k.toNatClampNeg))) with
    | true => rw [hb] at h; cases h
    | false =>
    rw [hb] at h
    cases h
    simp only [Bool.or_eq_false_iff, decide_eq_false_iff_not] at hb
    obtain ⟨hi, hk, hi2, hk2⟩ := hb
    have hi3 : i.toNatClampNeg ≤ 1000 := by
      unfold Nat.blt at hi2
      have := Nat.not_le_of_not_ble_eq_true (by rw [hi2]; decide)
      omega
    have hk3 : k.toNatClampNeg ≤ 1000 := by
      unfold Nat.blt at hk2
      have := Nat.not_le_of_not_ble_eq_true (by rw [hk2]; decide)
      omega
    refine ⟨by dsimp only; omega, by dsimp only; omega, fun b1 b2 k2 => ?_⟩
    intro α H locs ls lv st hp hR hV hL hl hs h1 h2
    dsimp only at b1 b2 h1 h2
    obtain ⟨st1, rfl, hs1⟩ := kvS_int hs
    obtain ⟨st, rfl, hs2⟩ := kvS_int hs1
    subst hn
    have hRc := C.2.2.2.2.2.2.2.2.2.2.1
    have hRs := C.2.2.2.2.2.2.2.2.2.2.2.1
    have hc1 : nc - nc0 + (1 + i.toNatClampNeg) ≤ R.cells := by refine Nat.le_trans ?_ hRc; omega
    have hc2 : ns - ns0 + (i.toNatClampNeg + i.toNatClampNeg * k.toNatClampNeg) ≤ R.slots := by refine Nat.le_trans ?_ hRs; omega
    refine k_mna C hw hov hwa hd hi hk hi3 hk3 hc1 hc2 fun H1 co cy z1 o1 e1 e2 e3 e4 e5 d1 d2 d3 d4 => ?_
    have hbH : kb E ≤ H.size := Nat.le_trans C.2.2.2.2.2.2.1.1.2.2 hV.1
    have hal : α.length = kn E + hh.length := hR.1
    generalize hcs : ((104, (List.range i.toNatClampNeg).map (fun j => Value.ref (kn E + hh.length + 1 + j))) :: List.replicate i.toNatClampNeg (100, List.replicate k.toNatClampNeg (.int 0)) : List kCel) = cs at k2
    have hcl : cs.length = i.toNatClampNeg + 1 := by rw [← hcs]; simp
    have hβ : ∀ j, j < cs.length → (α ++ (List.range cs.length).map (fun i => H.size + i))[kn E + hh.length + j]? = some (H.size + j) := fun j hj => by
      rw [List.getElem?_append_right (by omega), show kn E + hh.length + j - α.length = j by omega, List.getElem?_map, List.getElem?_range hj]; rfl
    have hn9 : ∀ (j : Nat) (q : kCel), cs[j]? = some q → kAt E s (α ++ (List.range cs.length).map (fun i => H.size + i)) H1 (H.size + j) q := by
      intro j q hj
      have hjl := (List.getElem?_eq_some_iff.mp hj).1
      rw [← hcs] at hj
      cases j with
      | zero =>
        cases hj
        refine ⟨co, e1, e2, Or.inr ⟨(show 100 ≤ 104 by decide), e3, by simp [e4], fun j v hv => ?_⟩⟩
        obtain ⟨g1, g2⟩ := List.getElem?_eq_some_iff.mp hv
        simp at g1 g2
        subst g2
        refine ⟨_, kv_ref (a := H.size + 1 + j) ?_, e5 j g1⟩
        have := hβ (1 + j) (by omega)
        rw [show kn E + hh.length + 1 + j = kn E + hh.length + (1 + j) by omega, this]
        congr 1
        omega
      | succ j =>
        rw [List.getElem?_cons_succ] at hj
        obtain ⟨g1, g2⟩ := List.getElem?_eq_some_iff.mp hj
        simp at g1 g2
        subst g2
        refine ⟨cy, by have := d1 j g1; rwa [show H.size + 1 + j = H.size + (j + 1) by omega] at this, d2, Or.inr ⟨(show 100 ≤ 100 by decide), d3, by simp [d4], fun j v hv => ?_⟩⟩
        obtain ⟨f1, f2⟩ := List.getElem?_eq_some_iff.mp hv
        simp at f1 f2
        subst f2
        refine ⟨.int 0, rfl, ?_⟩
        rw [d4]
        simp [f1]
    have hpp := List.prefix_append α ((List.range cs.length).map (fun i => H.size + i))
    have k3 := k2 (α ++ (List.range cs.length).map (fun i => H.size + i)) H1 locs ls lv (.ref H.size :: st) (List.IsPrefix.trans hp hpp) (hR.pushs hbH hn9 o1) ⟨by rw [z1]; have := hV.1; omega, fun x g1 g2 => (o1 x (Nat.lt_of_lt_of_le g1 hV.1)).trans (hV.2.1 x g1 g2), hV.2.2⟩ (kvL_mono hpp hL) hl (kvS_mk (kv_ref (by
      have := hβ 0 (by omega)
      exact this)) (kvS_mono hpp hs2)) (by dsimp only; omega) (by dsimp only; omega)
    dsimp only at k3 ⊢
    rw [show nc - nc0 + 1 + i.toNatClampNeg = nc + 1 + i.toNatClampNeg - nc0 by omega, show ns - ns0 + i.toNatClampNeg + i.toNatClampNeg * k.toNatClampNeg = ns + i.toNatClampNeg + i.toNatClampNeg * k.toNatClampNeg - ns0 by omega]
    exact k3
  · cases h
/-- new C -/
def oNew (n ci N : Nat) (ds : List Value) : kOp := fun fs => some (.inl (0, (fs.1, .ref (n + fs.2.2.1.length) :: fs.2.1, (fs.2.2.1 ++ [(ci, ds)], fs.2.2.2.1 + 1, fs.2.2.2.2 + N))))
theorem ok_new {n ci N ix : Nat} {Cn : String} {T : u_T} {ds : List Value} (C : kCx E XX σ zs p l e R s m args below meth c α0 cc nL nc0 ns0 res own ws) (hn : kn E = n) (hin : ∀ w ∈ u_ws Cn T N, w ∈ ws) (ty : Nat → FieldType) (hty : ∀ k, k < N → parseFieldDescriptor (T k).2.2.1 = some (ty k)) (hc : (kcl E)[ci]? = some (Cn, T, N)) (h1 : Cond.classLink own ix Cn ∈ ws) (h2 : Cond.instantiable Cn N ∈ ws) (h3 : Cond.initialized Cn ∈ ws) (hds : ds = (List.range N).map fun k => defaultValue (ty k)) (hd : decode cc pc = .ok (.new ix, 3)) : kOK E p l e R s m args below meth c α0 nL nc0 ns0 res pc (kTo (pc + 3)) (oNew n ci N ds) := by
  intro fs r h
  obtain ⟨L, S, hh, nc, ns⟩ := fs
  cases h
  refine ⟨Nat.le_succ _, Nat.le_add_right _ _, fun b1 b2 k2 => ?_⟩
  intro α H locs ls lv st hp hR hV hL hl hs g1 g2
  dsimp only at b1 b2 g1 g2
  subst hn
  have hRc := C.2.2.2.2.2.2.2.2.2.2.1
  have hRs := C.2.2.2.2.2.2.2.2.2.2.2.1
  have hc1 : nc - nc0 + 1 ≤ R.cells := by refine Nat.le_trans ?_ hRc; omega
  have hc2 : ns - ns0 + N ≤ R.slots := by refine Nat.le_trans ?_ hRs; omega
  have hts := C.2.2.2.2.1
  have hKn := C.2.2.2.2.2.2.1.2.1 ci _ hc
  refine W.newcK C.1 C.2.1 C.2.2.2.1 (hts _ h1) (hts _ h2) (hts _ h3) rfl hd hc1 hc2 hKn.2.1 rfl fun H1 kC hkC e1 z1 o1 => ?_
  have hbH : kb E ≤ H.size := Nat.le_trans C.2.2.2.2.2.2.1.1.2.2 hV.1
  have hB := u_born ty hts hin hKn hkC e1 hty
  have hat : kAt E s (α ++ [H.size]) H1 H.size (ci, ds) := by
    obtain ⟨cell, b1, b2, b3, b4⟩ := hB
    refine ⟨cell, b1, b3, Or.inl ⟨_, hc, b2, by rw [hds]; simp, fun j v hj => ?_⟩⟩
    rw [hds] at hj
    obtain ⟨f1, f2⟩ := List.getElem?_eq_some_iff.mp hj
    simp at f1 f2
    subst f2
    exact ⟨defaultValue (ty j), by cases ty j <;> rfl, b4 j f1⟩
  have hpp := List.prefix_append α [H.size]
  have k3 := k2 (α ++ [H.size]) H1 locs ls lv (.ref H.size :: st) (List.IsPrefix.trans hp hpp) (hR.push (Nat.le_refl _) hbH hat o1 hR.lt) ⟨by rw [z1]; exact Nat.le_succ_of_le hV.1, fun x g1 g2 => (o1 x (Nat.lt_of_lt_of_le g1 hV.1)).trans (hV.2.1 x g1 g2), hV.2.2⟩ (kvL_mono hpp hL) hl (kvS_mk (kv_ref (by
    show (α ++ [H.size])[kn E + hh.length]? = _
    rw [show kn E + hh.length = α.length by have := hR.1; dsimp only at this; omega, List.getElem?_append_right (Nat.le_refl _), Nat.sub_self]; rfl)) (kvS_mono hpp hs)) (by dsimp only; omega) (by dsimp only; omega)
  dsimp only at k3 ⊢
  rw [show nc - nc0 + 1 = nc + 1 - nc0 by omega, show ns - ns0 + N = ns + N - ns0 by omega]
  exact k3
/-- Object.<init> -/
def oObj : kOp := fun fs => match fs.2.1 with
  | .ref _ :: S => bif Nat.ble S.length 4 then some (.inl (0, (fs.1, S, fs.2.2))) else none
  | _ => none
theorem ok_obj {ix : Nat} (C : kCx E XX σ zs p l e R s m args below meth c α0 cc nL nc0 ns0 res own ws) (h1 : Cond.methodLink own ix Lib.objectInit ∈ ws) (h2 : Cond.instanceMethod Lib.objectInit ∈ ws) (h3 : Cond.code Lib.objectInit ⟨#[0xb1]⟩ 1 none ∈ ws) (hd : decode cc pc = .ok (.invokespecial ix, 3)) : kOK E p l e R s m args below meth c α0 nL nc0 ns0 res pc (kTo (pc + 3)) oObj := by
  intro fs r h
  obtain ⟨L, S0, hh, nc, ns⟩ := fs
  unfold oObj at h
  split at h
  · rename_i a S hS
    simp only at hS
    subst hS
    cases hb : Nat.ble S.length 4 with
    | false => rw [hb] at h; cases h
    | true =>
    rw [hb] at h
    cases h
    refine ⟨Nat.le_refl _, Nat.le_refl _, fun b1 b2 k2 => ?_⟩
    intro α H locs ls lv st hp hR hV hL hl hs g1 g2
    obtain ⟨a1, st, rfl, ha, hs2⟩ := kvS_ref hs
    have hts := C.2.2.2.2.1
    have hf := C.2.2.2.2.2.2.2.2.2.2.2.2.1
    have hlo := C.2.2.2.2.2.2.2.2.2.2.2.2.2
    have h4 := Nat.le_of_ble_eq_true hb
    have h5 := kvS_cats hs2
    refine W.objInit C.1 C.2.1 C.2.2.2.1 (hts _ h1) (hts _ h2) (hts _ h3) rfl (by rw [C.2.2.1]; exact hl.1) rfl hd (by omega) ?_ ?_
    · show 2 * 0 + _ + 12 ≤ _
      omega
    · exact k2 α H locs ls lv st hp hR hV hL hl hs2 g1 g2
  · cases h
/-- a cast to a class that the object's class is known to be of -/
def oCast (n ci : Nat) : kOp := fun fs => match fs.2.1 with
  | .ref a :: S => (match kcell n fs.2.2.1 a with
    | some q => bif Nat.beq q.1 ci then some (.inl (0, fs)) else none
    | none => none)
  | .null :: S => some (.inl (0, fs))
  | _ => none
theorem ok_cast {n ci ix : Nat} {Cn : String} {r0 : vw_C} (C : kCx E XX σ zs p l e R s m args below meth c α0 cc nL nc0 ns0 res own ws) (hn : kn E = n) (hc : (kcl E)[ci]? = some r0) (hw : Cond.classLink own ix Cn ∈ ws) (hx : va_Nw (.castable r0.1 Cn) s) (hd : decode cc pc = .ok (.checkcast ix, 3)) : kOK E p l e R s m args below meth c α0 nL nc0 ns0 res pc (kTo (pc + 3)) (oCast n ci) := by
  intro fs r h
  obtain ⟨L, S0, hh, nc, ns⟩ := fs
  unfold oCast at h
  split at h
  · rename_i a S hS
    simp only at hS
    subst hS
    split at h
    · rename_i q hq
      cases hb : Nat.beq q.1 ci with
      | false => rw [hb] at h; cases h
      | true =>
      rw [hb] at h
      cases h
      refine ⟨Nat.le_refl _, Nat.le_refl _, fun b1 b2 k2 => ?_⟩
      intro α H locs ls lv st hp hR hV hL hl hs g1 g2
      have hs0 := hs
      obtain ⟨a1, st, rfl, ha, hs2⟩ := kvS_ref hs
      subst hn
      obtain ⟨f1, f2⟩ := kcell_spec hq
      obtain ⟨ha0, cell, q1, q3, q4⟩ := hR.at f1 f2 ha
      rw [Nat.eq_of_beq_eq_true hb] at q4
      rcases q4 with ⟨rr, e1, e2, e3, e4⟩ | ⟨e1, -⟩
      · have hKn := C.2.2.2.2.2.2.1.2.1 ci _ hc
        exact va_castY C.1 C.2.1 C.2.2.2.1 (C.2.2.2.2.1 _ hw) hx ⟨cell, q1, by rw [q3]; rfl, by rw [e2]; exact hKn.2.1⟩ hd (k2 α H locs ls lv _ hp hR hV hL hl hs0 g1 g2)
      · exact absurd (k_classlt C hc) (by omega)
    · cases h
  · rename_i S hS
    simp only at hS
    subst hS
    cases h
    refine ⟨Nat.le_refl _, Nat.le_refl _, fun b1 b2 k2 => ?_⟩
    intro α H locs ls lv st hp hR hV hL hl hs g1 g2
    have hs0 := hs
    obtain ⟨st, rfl, hs2⟩ := kvS_null hs
    exact lv_castN C.1 C.2.1 hd (k2 α H locs ls lv _ hp hR hV hL hl hs0 g1 g2)
  · cases h
/-- throw new X(text) -/
def tThrow (k : Nat) : kOp := fun fs => bif Nat.ble fs.2.1.length 4 then some (.inr (.inr k, (fs.2.2.1, fs.2.2.2.1 + 1, fs.2.2.2.2 + 6))) else none
theorem ok_throw {k ik is ic sa : Nat} {text : String} {names : List String} {pcs : Nat → Nat} (C : kCx E XX σ zs p l e R s m args below meth c α0 cc nL nc0 ns0 res own ws) (hcls : Bundle.fit (kEx k) = true) (hnames : ∀ n ∈ names, Bundle.fit n = true) (hnl : names.length ≤ 3) (hk : Cond.classLink own ik (kEx k) ∈ ws) (hini : Cond.initialized (kEx k) ∈ ws) (hstr : vk_R own is text sa s) (hat : ∀ w ∈ vx_atS own ic (kEx k) names, w.before args s = true) (hgood : ∀ w ∈ Cond.classLink own ik (kEx k) :: Cond.initialized (kEx k) :: vx_atS own ic (kEx k) names, vx_ot w = true)
    (hU : vx_Zq Bundle.tN "UNASSIGNED_STACK" Bundle.steD (fun q => kb E ≤ q) s s.heap) (hN : vx_Zq Bundle.tN "SUPPRESSED_SENTINEL" Bundle.listD (fun q => kb E ≤ q) s s.heap)
    (d0 : decode cc pc = .ok (.new ik, 3)) (d3 : decode cc (pc + 3) = .ok (.dup, 1)) (d4 : decode cc (pc + 4) = .ok (.ldc is, 2)) (d6 : decode cc (pc + 6) = .ok (.invokespecial ic, 3)) (d9 : decode cc (pc + 9) = .ok (.athrow, 1)) (hout : ∀ x ∈ c.exceptionTable.toList, False) : kOK E p l e R s m args below meth c α0 nL nc0 ns0 res pc pcs (tThrow k) := by
  intro fs r h
  obtain ⟨L, S0, hh, nc, ns⟩ := fs
  unfold tThrow at h
  cases hb : Nat.ble S0.length 4 with
  | false => rw [hb] at h; cases h
  | true =>
  rw [hb] at h
  cases h
  refine ⟨Nat.le_succ _, Nat.le_add_right _ _, fun hq => ?_⟩
  subst hq
  intro α H locs ls lv st hp hR hV hL hl hs g1 g2
  dsimp only at g1 g2
  have hts := C.2.2.2.2.1
  have hRc := C.2.2.2.2.2.2.2.2.2.2.1
  have hRs := C.2.2.2.2.2.2.2.2.2.2.2.1
  have hf := C.2.2.2.2.2.2.2.2.2.2.2.2.1
  have hlo := C.2.2.2.2.2.2.2.2.2.2.2.2.2
  dsimp only at hRc hRs
  have h4 := Nat.le_of_ble_eq_true hb
  have h5 := kvS_cats hs
  dsimp only at h5
  have hc1 : nc - nc0 + 1 ≤ R.cells := by refine Nat.le_trans ?_ hRc; omega
  have hc2 : ns - ns0 + 6 ≤ R.slots := by refine Nat.le_trans ?_ hRs; omega
  exact vx_throwS C.1 C.2.1 C.2.2.2.2.2.2.2.2.2.1 C.2.2.2.1 hcls hnames (hts _ hk) (hts _ hini) hstr hat hgood hU hN hV (by rw [C.2.2.1]; exact hl.1) d0 d3 d4 d6 d9 (fun x hx => (hout x hx).elim) (by omega) (by omega) hc1 hc2 C.2.2.2.2.2.1
    (fun t hvm hz hq => ⟨⟨α, k, hp, rfl, rfl, (show kRep E t α hh t.heap from ⟨hR.1, hR.2.1, fun j d hj => by
      obtain ⟨x, y1, y2, y3⟩ := hR.2.2 j d hj
      exact ⟨x, y1, y2, (y3.kept (List.prefix_refl _) (hq x y3.lt)).moved hvm⟩⟩)⟩, ⟨Nat.le_trans hV.1 hz, fun q q1 q2 => (hq q (Nat.lt_of_lt_of_le q1 hV.1)).trans (hV.2.1 q q1 q2)⟩⟩)
    hV.2.2 (by dsimp only; omega) (by dsimp only; omega)
end KREF
