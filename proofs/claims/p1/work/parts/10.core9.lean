/-! ===== more operations: what is not reached; tables of handlers; calls in a try; the JDK's lists ===== -/
section K9
variable {p : Program} {l : Launch} {e : Env} {R : Room} {s : State} {m : MethodId} {args : Array Value} {below : List Frame} {meth : Method} {c : Code}
variable {E : kE} {XX : State → Prop} {σ α0 : List Nat} {cc : ByteArray} {nL nc0 ns0 : Nat} {res : kRes} {pc pc' : Nat} {own : String} {ws : List Cond} {zs : List (String × String × Nat)}
/-- the end of a road that nobody walks -/
def oStuck : kOp := fun _ => none
theorem ok_stuck {pcs : Nat → Nat} : kOK E p l e R s m args below meth c α0 nL nc0 ns0 res pc pcs oStuck := by
  intro fs r h
  cases h
/-- a static field that holds a reference of the start -/
theorem ok_getZ {k ix : Nat} {Cn nm d : String} (C : kCx E XX σ zs p l e R s m args below meth c α0 cc nL nc0 ns0 res own ws) (hz : ∃ a, σ[k]? = some a ∧ va_Z Cn nm d (.ref a) (fun q => kb E ≤ q) s s.heap) (hlink : Cond.fieldLink own ix Cn nm d ∈ ws) (hd : decode cc pc = .ok (.getstatic ix, 3)) : kOK E p l e R s m args below meth c α0 nL nc0 ns0 res pc (kTo (pc + 3)) (oGetS k) := by
  intro fs r h
  cases h
  refine ⟨Nat.le_refl _, Nat.le_refl _, fun _ _ k2 => ?_⟩
  intro α H locs ls lv st hp hR hV hL hl hs h1 h2
  obtain ⟨a, ha, hZ⟩ := hz
  have ha2 : α[k]? = some a := k_pre ha (List.IsPrefix.trans C.2.2.2.2.2.2.2.2.1 hp)
  exact va_gets C.1 C.2.1 hZ hV C.2.2.2.1 (C.2.2.2.2.1 _ hlink) (fun _ h => h) hd (k2 α H locs ls lv _ hp hR hV hL hl (kvS_mk (kv_ref ha2) hs) h1 h2)
/-- a static field that holds a known int -/
theorem ok_getI {v : Int32} {ix : Nat} {Cn nm : String} (C : kCx E XX σ zs p l e R s m args below meth c α0 cc nL nc0 ns0 res own ws) (hz : va_Z Cn nm "I" (.int v) (fun q => kb E ≤ q) s s.heap) (hlink : Cond.fieldLink own ix Cn nm "I" ∈ ws) (hd : decode cc pc = .ok (.getstatic ix, 3)) : kOK E p l e R s m args below meth c α0 nL nc0 ns0 res pc (kTo (pc + 3)) (oS (gPush (.int v))) := by
  intro fs r h
  cases h
  refine ⟨Nat.le_refl _, Nat.le_refl _, fun _ _ k2 => ?_⟩
  intro α H locs ls lv st hp hR hV hL hl hs h1 h2
  exact va_gets C.1 C.2.1 hz hV C.2.2.2.1 (C.2.2.2.2.1 _ hlink) (fun _ h => h) hd (k2 α H locs ls lv _ hp hR hV hL hl (kvS_mk rfl hs) h1 h2)
/-- two references that are one -/
def tSame (b : Nat) : kOp := fun fs => match fs.2.1 with
  | .ref i :: .ref j :: S => bif Nat.beq i j then some (.inl (b, (fs.1, S, fs.2.2))) else none
  | _ => none
theorem ok_acmp_eq {off : Int} {tgt b : Nat} {pcs : Nat → Nat} (C : kCx E XX σ zs p l e R s m args below meth c α0 cc nL nc0 ns0 res own ws) (hd : decode cc pc = .ok (.if_acmp .eq off, 3)) (ht : (pc : Int) + off = (tgt : Int)) (hb : pcs b = tgt) : kOK E p l e R s m args below meth c α0 nL nc0 ns0 res pc pcs (tSame b) := by
  intro fs r h
  obtain ⟨L, S0, hh⟩ := fs
  unfold tSame at h
  split at h
  · rename_i i j S hS
    simp only at hS
    subst hS
    cases hb2 : Nat.beq i j with
    | false => rw [hb2] at h; cases h
    | true =>
    rw [hb2] at h
    cases h
    have e1 := Nat.eq_of_beq_eq_true hb2
    subst e1
    refine ⟨Nat.le_refl _, Nat.le_refl _, fun _ _ k2 => ?_⟩
    intro α H locs ls lv st hp hR hV hL hl hs h1 h2
    obtain ⟨a1, st0, rfl, ha, hs0⟩ := kvS_ref hs
    obtain ⟨a2, st1, rfl, ha2, hs1⟩ := kvS_ref hs0
    cases ha.symm.trans ha2
    rw [hb] at k2
    exact lv_acmp_eq (rx := some a1) (ry := some a1) C.1 C.2.1 hd ht (fun _ => k2 α H locs ls lv _ hp hR hV hL hl hs1 h1 h2) (fun h => absurd rfl h)
  · cases h
/-- new int[n][] -/
theorem ok_newqA {n ix : Nat} (C : kCx E XX σ zs p l e R s m args below meth c α0 cc nL nc0 ns0 res own ws) (hn : kn E = n) (hw : Cond.classLink own ix (FieldType.array .int).toString ∈ ws) (hov : va_AOA .int s) (hd : decode cc pc = .ok (.anewarray ix, 3)) : kOK E p l e R s m args below meth c α0 nL nc0 ns0 res pc (kTo (pc + 3)) (oNewq n 104) := by
  intro fs r h
  obtain ⟨L, S0, hh, nc, ns⟩ := fs
  unfold oNewq oNewa at h
  split at h
  · rename_i i S hS
    simp only at hS
    subst hS
    cases hb : (decide (i < 0) || Nat.blt 1000000 i.toNatClampNeg) with
    | true => rw [hb] at h; cases h
    | false =>
    rw [hb] at h
    cases h
    simp only [Bool.or_eq_false_iff, decide_eq_false_iff_not] at hb
    have hle : i.toNatClampNeg ≤ 1000000 := by
      have h9 := hb.2
      unfold Nat.blt at h9
      have := Nat.not_le_of_not_ble_eq_true (by rw [h9]; decide)
      omega
    refine ⟨Nat.le_succ _, Nat.le_add_right _ _, fun b1 b2 k2 => ?_⟩
    intro α H locs ls lv st hp hR hV hL hl hs h1 h2
    dsimp only at b1 b2 h1 h2
    obtain ⟨st, rfl, hs2⟩ := kvS_int hs
    subst hn
    have hRc := C.2.2.2.2.2.2.2.2.2.2.1
    have hRs := C.2.2.2.2.2.2.2.2.2.2.2.1
    have hc1 : nc - nc0 + 1 ≤ R.cells := by refine Nat.le_trans ?_ hRc; omega
    have hc2 : ns - ns0 + i.toNatClampNeg ≤ R.slots := by refine Nat.le_trans ?_ hRs; omega
    refine W.anewA (t := .int) C.1 C.2.1 C.2.2.2.1 (C.2.2.2.2.1 _ hw) (va_AOA.use hov) rfl hd rfl hb.1 (by omega) hc1 hc2 fun cA kA comp f1 f2 f3 f4 => ?_
    generalize hH1 : H.push ({ cls := cA, slots := Array.replicate i.toNatClampNeg .null, vm := .none } : Cell) = H1
    have z1 : H1.size = H.size + 1 := by rw [← hH1, Array.size_push]
    have e1 : H1[H.size]? = some ({ cls := cA, slots := Array.replicate i.toNatClampNeg .null, vm := .none } : Cell) := by rw [← hH1, Array.getElem?_push_size]
    have o1 : ∀ q : Nat, q < H.size → H1[q]? = H[q]? := fun q hq => by rw [← hH1, Array.getElem?_push, if_neg (Nat.ne_of_lt hq)]
    have hbH : kb E ≤ H.size := Nat.le_trans C.2.2.2.2.2.2.1.1.2.2 hV.1
    have hat : kAt E s (α ++ [H.size]) H1 H.size (104, List.replicate i.toNatClampNeg (kdef 104)) := by
      refine ⟨_, e1, rfl, Or.inr ⟨(show 100 ≤ 104 from by decide), ⟨kA, comp, f2, f3, fun Dn hDn => (by cases hDn), fun hI => (by cases hI), fun _ => f4⟩, by simp, fun j v hj => ?_⟩⟩
      obtain ⟨hjl, hje⟩ := List.getElem?_eq_some_iff.mp hj
      simp at hjl hje
      subst hje
      refine ⟨kdef 104, kdef_cv 104, ?_⟩
      show (Array.replicate i.toNatClampNeg Value.null)[j]? = some .null
      simp [hjl]
    have hpp := List.prefix_append α [H.size]
    have k3 := k2 (α ++ [H.size]) H1 locs ls lv (.ref H.size :: st) (List.IsPrefix.trans hp hpp) (hR.push (Nat.le_refl _) hbH hat o1 hR.lt) ⟨by rw [z1]; exact Nat.le_succ_of_le hV.1, fun x g1 g2 => (o1 x (Nat.lt_of_lt_of_le g1 hV.1)).trans (hV.2.1 x g1 g2), hV.2.2⟩ (kvL_mono hpp hL) hl (kvS_mk (kv_ref (by
      show (α ++ [H.size])[kn E + hh.length]? = _
      rw [show kn E + hh.length = α.length by have := hR.1; dsimp only at this; omega, List.getElem?_append_right (Nat.le_refl _), Nat.sub_self]; rfl)) (kvS_mono hpp hs2)) (by dsimp only; omega) (by dsimp only; omega)
    dsimp only at k3 ⊢
    rw [show nc - nc0 + 1 = nc + 1 - nc0 by omega, show ns - ns0 + i.toNatClampNeg = ns + i.toNatClampNeg - ns0 by omega]
    exact k3
  · cases h
/-- a row of ints into a row of rows -/
def oAstA (n : Nat) : kOp := fun fs => match fs.2.1 with
  | .ref v :: .int i :: .ref a :: S => (match kcell n fs.2.2.1 a, kcell n fs.2.2.1 v with
      | some q, some u => bif Nat.beq q.1 104 && Nat.beq u.1 100 then (match kidx q.2 i with
        | some _ => some (.inl (0, (fs.1, S, (fs.2.2.1.set (a - n) (q.1, q.2.set i.toNatClampNeg (.ref v)), fs.2.2.2))))
        | none => none) else none
      | _, _ => none)
  | _ => none
theorem k_asgA {cA : ClassId} {k : Class} {comp : ClassId} {t : FieldType} (hk : s.vm.classes[cA]? = some k) (hkind : k.kind = .array comp t) : s.vm.assignable cA cA = true := va_asg _ _
theorem ok_aastoreA {n : Nat} (C : kCx E XX σ zs p l e R s m args below meth c α0 cc nL nc0 ns0 res own ws) (hn : kn E = n) (hd : decode cc pc = .ok (.aastore, 1)) : kOK E p l e R s m args below meth c α0 nL nc0 ns0 res pc (kTo (pc + 1)) (oAstA n) := by
  intro fs r h
  obtain ⟨L, S0, hh, nc, ns⟩ := fs
  unfold oAstA at h
  split at h
  · rename_i v i a S hS
    simp only at hS
    subst hS
    split at h
    · rename_i q u hq hu
      cases hb : (Nat.beq q.1 104 && Nat.beq u.1 100) with
      | false => rw [hb] at h; cases h
      | true =>
      rw [hb] at h
      simp only [Bool.and_eq_true] at hb
      simp only [cond_true] at h
      split at h
      · rename_i y hx
        cases h
        refine ⟨Nat.le_refl _, Nat.le_refl _, fun _ _ k2 => ?_⟩
        intro α H locs ls lv st hp hR hV hL hl hs h1 h2
        obtain ⟨v1, st0, rfl, hv, hs0⟩ := kvS_ref hs
        obtain ⟨st1, rfl, hs1⟩ := kvS_int hs0
        obtain ⟨a1, st, rfl, ha, hs2⟩ := kvS_ref hs1
        obtain ⟨i1, i2⟩ := kidx_spec hx
        subst hn
        obtain ⟨g1, g2⟩ := kcell_spec hq
        obtain ⟨f1, f2⟩ := kcell_spec hu
        obtain ⟨ha0, hat⟩ := hR.at g1 g2 ha
        obtain ⟨hv0, hvt⟩ := hR.at f1 f2 hv
        have hq1 : q.1 = 104 := Nat.eq_of_beq_eq_true hb.1
        have hu1 : u.1 = 100 := Nat.eq_of_beq_eq_true hb.2
        obtain ⟨cell, q1, q3, q4, q5, q6⟩ := k_arr (by decide) C hq1 hat
        obtain ⟨cv, u1, u3, u4, u5, u6⟩ := k_arr (by decide) C hu1 hvt
        have hil := (List.getElem?_eq_some_iff.mp i2).1
        obtain ⟨kA, comp, z1, z2, z3⟩ := q4
        obtain ⟨kV, compV, y1, y2, y3⟩ := u4
        have e1 : s.vm.findClass "[I" = some comp := z3.2.2 rfl
        have e2 : s.vm.findClass "[I" = some cv.cls := y3.2.1 rfl
        have e3 : comp = cv.cls := Option.some.inj (e1.symm.trans e2)
        subst e3
        refine W.aast C.1 C.2.1 q1 (fun q h => by rw [q3] at h; cases h) (by rw [q3]; exact fun h => by cases h) z1 z2 rfl y1 ⟨fun z => i1 (Or.inl z), by rw [q5]; exact hil⟩ u1 (fun q h => by rw [u3] at h; cases h) y1 (va_asg _ _) rfl rfl hd fun H' e5 e6 e7 => ?_
        exact k2 α H' _ ls lv st hp (hR.put g1 g2 ha (k_elem (by omega) q3 (by rw [hq1]; exact ⟨kA, cv.cls, z1, z2, z3⟩) q5 q6 hil (kv_ref hv) e5) e7) (hV.put e6 e7 ha0) hL hl hs2 h1 h2
      · cases h
    · cases h
  · cases h
/-- any object into a row of Objects: a cell of the heap whose class pa names, or one of the start's objects 9 .. n - 1 -/
def oAstO (n : Nat) (pa : Nat → Bool) : kOp := fun fs => match fs.2.1 with
  | .ref v :: .int i :: .ref a :: S => (match kcell n fs.2.2.1 a with
      | some q => bif Nat.beq q.1 109 && (bif Nat.ble n v then (match fs.2.2.1[v - n]? with | some u => pa u.1 | none => false) else Nat.ble 9 v) then (match kidx q.2 i with
        | some _ => some (.inl (0, (fs.1, S, (fs.2.2.1.set (a - n) (q.1, q.2.set i.toNatClampNeg (.ref v)), fs.2.2.2))))
        | none => none) else none
      | none => none)
  | _ => none
theorem ok_aastoreO {n : Nat} {pa : Nat → Bool} (C : kCx E XX σ zs p l e R s m args below meth c α0 cc nL nc0 ns0 res own ws) (hn : kn E = n) (hpa : ∀ ci, pa ci = true → ∃ r : vw_C, (kcl E)[ci]? = some r ∧ va_Nw (.castable r.1 "java/lang/Object") s)
    (hO : ∀ v a, 9 ≤ v → v < n → σ[v]? = some a → va_O "java/lang/Integer" a (fun q => kb E ≤ q) s s.heap) (hOC : va_Nw (.castable "java/lang/Integer" "java/lang/Object") s) (hd : decode cc pc = .ok (.aastore, 1)) : kOK E p l e R s m args below meth c α0 nL nc0 ns0 res pc (kTo (pc + 1)) (oAstO n pa) := by
  intro fs r h
  obtain ⟨L, S0, hh, nc, ns⟩ := fs
  unfold oAstO at h
  split at h
  · rename_i v i a S hS
    simp only at hS
    subst hS
    split at h
    · rename_i q hq
      cases hb : (Nat.beq q.1 109 && (bif Nat.ble n v then (match hh[v - n]? with | some u => pa u.1 | none => false) else Nat.ble 9 v)) with
      | false => rw [hb] at h; cases h
      | true =>
      rw [hb] at h
      simp only [Bool.and_eq_true] at hb
      simp only [cond_true] at h
      split at h
      · rename_i y hx
        cases h
        refine ⟨Nat.le_refl _, Nat.le_refl _, fun _ _ k2 => ?_⟩
        intro α H locs ls lv st hp hR hV hL hl hs h1 h2
        obtain ⟨v1, st0, rfl, hv, hs0⟩ := kvS_ref hs
        obtain ⟨st1, rfl, hs1⟩ := kvS_int hs0
        obtain ⟨a1, st, rfl, ha, hs2⟩ := kvS_ref hs1
        obtain ⟨i1, i2⟩ := kidx_spec hx
        subst hn
        obtain ⟨g1, g2⟩ := kcell_spec hq
        obtain ⟨ha0, hat⟩ := hR.at g1 g2 ha
        have hq1 : q.1 = 109 := Nat.eq_of_beq_eq_true hb.1
        obtain ⟨cell, q1, q3, q4, q5, q6⟩ := k_arr (by decide) C hq1 hat
        have hil := (List.getElem?_eq_some_iff.mp i2).1
        obtain ⟨kA, comp, z1, z2, z3⟩ := q4
        have hfc := z3.1 "java/lang/Object" rfl
        obtain ⟨kcomp, hkc, -⟩ := Vm.findClass_spec hfc
        have hany : va_Any "java/lang/Object" s H v1 := by
          cases hbv : Nat.ble (kn E) v with
          | true =>
            rw [hbv] at hb
            have hb2 := hb.2
            simp only [cond_true] at hb2
            cases hu : hh[v - kn E]? with
            | none => rw [hu] at hb2; cases hb2
            | some u =>
              rw [hu] at hb2
              obtain ⟨rr, hr1, hr2⟩ := hpa _ hb2
              obtain ⟨hv0, cv, u1, u3, u4⟩ := hR.at (Nat.le_of_ble_eq_true hbv) hu hv
              rcases u4 with ⟨r9, e1, e2, e3, e4⟩ | ⟨e1, -⟩
              · obtain ⟨-, hcf, kV, hkV, -⟩ := C.2.2.2.2.2.2.1.2.1 _ _ hr1
                exact ⟨cv, u1, by rw [u3]; rfl, ⟨kV, by rw [e2]; exact hkV⟩, fun c9 h9 => vb_asgC hr2 c9 _ h9 (by rw [e2]; exact hcf)⟩
              · exact absurd (k_classlt C hr1) (by omega)
          | false =>
            rw [hbv] at hb
            have hb2 := hb.2
            simp only [cond_false] at hb2
            have hvn : v < kn E := by
              exact Nat.not_le.mp (Nat.not_le_of_not_ble_eq_true (by rw [hbv]; decide))
            have hsl : σ[v]? = some v1 := by
              have h9 : v < σ.length := Nat.lt_of_lt_of_eq hvn C.2.2.2.2.2.2.1.1.2.1.symm
              have h10 := k_pre (List.getElem?_eq_getElem h9) (List.IsPrefix.trans C.2.2.2.2.2.2.2.2.1 hp)
              rw [hv] at h10
              rw [List.getElem?_eq_getElem h9, ← h10]
            obtain ⟨cv, u1, u2, u3, u4⟩ := (hO v v1 (Nat.le_of_ble_eq_true hb2) hvn hsl).kept hV.2.1
            obtain ⟨kV, hkV, -⟩ := Vm.findClass_spec u3
            exact ⟨cv, u1, u2, ⟨kV, hkV⟩, fun c9 h9 => vb_asgC hOC c9 _ h9 u3⟩
        obtain ⟨cv, w1, w2, ⟨kV, hkV⟩, w4⟩ := hany
        refine W.aast C.1 C.2.1 q1 (fun q h => by rw [q3] at h; cases h) (by rw [q3]; exact fun h => by cases h) z1 z2 rfl hkc ⟨fun z => i1 (Or.inl z), by rw [q5]; exact hil⟩ w1 (fun q h => by rw [h] at w2; cases w2) hkV (w4 _ hfc) rfl rfl hd fun H' e5 e6 e7 => ?_
        exact k2 α H' _ ls lv st hp (hR.put g1 g2 ha (k_elem (by omega) q3 (by rw [hq1]; exact ⟨kA, comp, z1, z2, z3⟩) q5 q6 hil (kv_ref hv) e5) e7) (hV.put e6 e7 ha0) hL hl hs2 h1 h2
      · cases h
    · cases h
  · cases h
end K9
