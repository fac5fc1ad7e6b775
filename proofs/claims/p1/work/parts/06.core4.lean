/-! ===== fields, arrays, new ===== -/
def kcell (n : Nat) (h : List kCel) (a : Nat) : Option kCel := bif Nat.ble n a then h[a - n]? else none
def kidx {τ : Type} (t : List τ) (i : Int32) : Option τ := bif decide (i < 0) then none else t[i.toNatClampNeg]?
theorem kcell_spec {n : Nat} {h : List kCel} {a : Nat} {q : kCel} (hq : kcell n h a = some q) : n ≤ a ∧ h[a - n]? = some q := by
  unfold kcell at hq
  cases hb : Nat.ble n a with
  | false => rw [hb] at hq; cases hq
  | true => rw [hb] at hq; exact ⟨Nat.le_of_ble_eq_true hb, hq⟩
theorem kidx_spec {τ : Type} {t : List τ} {i : Int32} {x : τ} (h : kidx t i = some x) : vp_in i t.length ∧ t[i.toNatClampNeg]? = some x := by
  unfold kidx at h
  by_cases hi : i < 0
  · simp [hi] at h
  · simp only [hi, decide_false, cond_false] at h
    have := (List.getElem?_eq_some_iff.mp h).1
    exact ⟨fun q => by rcases q with q | q; exact hi q; omega, h⟩
def kfit (ty : FieldType) (v : Value) : Bool := match ty, v with
  | .int, .int _ => true
  | .boolean, .int x => x == 0 || x == 1
  | .long, .long _ => true
  | .double, .double _ => true
  | .object _, .null => true
  | .object _, .ref _ => true
  | .array _, .null => true
  | .array _, .ref _ => true
  | _, _ => false
theorem kfit_ok {α : List Nat} {ty : FieldType} {v w : Value} (h : kfit ty v = true) (hv : kv α v = some w) : narrow ty w = w ∧ fits ty w = true := by
  unfold kfit at h
  split at h
  · cases hv; exact ⟨rfl, rfl⟩
  · cases hv
    simp only [Bool.or_eq_true, beq_iff_eq] at h
    rcases h with rfl | rfl <;> exact ⟨rfl, rfl⟩
  · cases hv; exact ⟨rfl, rfl⟩
  · cases hv; exact ⟨rfl, rfl⟩
  · cases hv; exact ⟨rfl, rfl⟩
  · obtain ⟨a, -, rfl⟩ := kv_refI hv; exact ⟨rfl, rfl⟩
  · cases hv; exact ⟨rfl, rfl⟩
  · obtain ⟨a, -, rfl⟩ := kv_refI hv; exact ⟨rfl, rfl⟩
  · cases h
section KHEAP
variable {p : Program} {l : Launch} {e : Env} {R : Room} {s : State} {m : MethodId} {args : Array Value} {below : List Frame} {meth : Method} {c : Code}
variable {E : kE} {XX : State → Prop} {σ α0 : List Nat} {cc : ByteArray} {nL nc0 ns0 : Nat} {res : kRes} {pc pc' : Nat} {own : String} {ws : List Cond} {zs : List (String × String × Nat)}
/-- the apartness of a class's slots -/
theorem k_apart {Cn : String} {T : u_T} {N ci : Nat} (C : kCx E XX σ zs p l e R s m args below meth c α0 cc nL nc0 ns0 res own ws) (hin : ∀ w ∈ u_ws Cn T N, w ∈ ws) (ty : Nat → FieldType) (hty : ∀ k, k < N → parseFieldDescriptor (T k).2.2.1 = some (ty k)) (hnm : ∀ a, a < N → ∀ b, b < N → a ≠ b → (T a).2.1 ≠ (T b).2.1) (hc : (kcl E)[ci]? = some (Cn, T, N)) : ∀ x y, x < N → y < N → x ≠ y → kdI E ci x ≠ kdI E ci y := by
  have hts := C.2.2.2.2.1
  have hK := C.2.2.2.2.2.2.1.2.1
  intro x y hx hy hne
  obtain ⟨hS, -⟩ := hK ci _ hc
  obtain ⟨_, _, _, fa, hia, ea⟩ := hS x hx
  obtain ⟨_, _, _, fb, hib, eb⟩ := hS y hy
  rw [← ea, ← eb]
  refine u_apart (u_lays hts hin hx) (u_lays hts hin hy) hia hib ?_
  rw [(State.fieldFound?_type hia (hty x hx)).1, (State.fieldFound?_type hib (hty y hy)).1]
  exact hnm x hx y hy hne
theorem k_classlt (C : kCx E XX σ zs p l e R s m args below meth c α0 cc nL nc0 ns0 res own ws) {ci : Nat} {r : vw_C} (hc : (kcl E)[ci]? = some r) : ci < 100 := by
  have h1 := C.2.2.2.2.2.2.1.1.1
  have h2 := (List.getElem?_eq_some_iff.mp hc).1
  omega
def oGet (n ci k : Nat) : kOp := fun fs => match fs.2.1 with
  | .ref a :: S => match kcell n fs.2.2.1 a with
    | some q => bif Nat.beq q.1 ci then (match q.2[k]? with
      | some v => some (.inl (0, (fs.1, v :: S, fs.2.2)))
      | none => none) else none
    | none => none
  | _ => none
theorem ok_get {n ci k ix : Nat} {ref Cn : String} {T : u_T} {N : Nat} (C : kCx E XX σ zs p l e R s m args below meth c α0 cc nL nc0 ns0 res own ws) (hn : kn E = n) (hin : ∀ w ∈ u_ws Cn T N, w ∈ ws) (hc : (kcl E)[ci]? = some (Cn, T, N)) (hk : k < N) (hlink : Cond.fieldLink own ix ref (T k).2.1 (T k).2.2.1 ∈ ws) (hsame : ∀ x, s.fieldFound? (T k).1 (T k).2.1 (T k).2.2.1 = some x → s.fieldFound? ref (T k).2.1 (T k).2.2.1 = some x) (hd : decode cc pc = .ok (.getfield ix, 3)) : kOK E p l e R s m args below meth c α0 nL nc0 ns0 res pc (kTo (pc + 3)) (oGet n ci k) := by
  intro fs r h
  obtain ⟨L, S0, hh, nc, ns⟩ := fs
  unfold oGet at h
  split at h
  · rename_i a S hS
    simp only at hS
    subst hS
    split at h
    · rename_i q hq
      cases hb : Nat.beq q.1 ci with
      | false => rw [hb] at h; cases h
      | true =>
      rw [hb] at h
      simp only [cond_true] at h
      split at h
      · rename_i v hv
        cases h
        refine ⟨Nat.le_refl _, Nat.le_refl _, fun _ _ k2 => ?_⟩
        intro α H locs ls lv st hp hR hV hL hl hs h1 h2
        obtain ⟨a1, st, rfl, ha, hx⟩ := kvS_ref hs
        obtain ⟨g1, g2⟩ := kcell_spec hq
        subst hn
        obtain ⟨-, cell, q1, q3, q4⟩ := hR.at g1 g2 ha
        have hci : q.1 = ci := Nat.eq_of_beq_eq_true hb
        rcases q4 with ⟨r, e1, e2, e3, e4⟩ | ⟨e1, -⟩
        · rw [hci] at e1 e2 e4
          have hr : r = (Cn, T, N) := Option.some.inj (e1.symm.trans hc)
          subst hr
          obtain ⟨hSl, hfc, kC, hkC, hkind⟩ := C.2.2.2.2.2.2.1.2.1 ci _ hc
          obtain ⟨cf, kf, fi, f, hi, hsl⟩ := hSl k hk
          obtain ⟨w, w1, w2⟩ := e4 k v hv
          refine W.getf C.1 C.2.1 C.2.2.2.1 (C.2.2.2.2.1 _ hlink) (hsame _ hi) (u_facts hfc hkC (u_lays C.2.2.2.2.1 hin hk) hi).1 q1 (by rw [q3]; exact fun h => by cases h) (v := w) (by rw [hsl]; exact w2) rfl rfl hd ?_
          exact k2 α H locs ls lv _ hp hR hV hL hl (kvS_mk w1 hx) h1 h2
        · rw [hci] at e1
          exact absurd (k_classlt C hc) (by omega)
      · cases h
    · cases h
  · cases h
def oPut (n ci k : Nat) (ty : FieldType) : kOp := fun fs => match fs.2.1 with
  | v :: .ref a :: S => match kcell n fs.2.2.1 a with
    | some q => bif Nat.beq q.1 ci && (Nat.blt k q.2.length && kfit ty v) then some (.inl (0, (fs.1, S, (fs.2.2.1.set (a - n) (q.1, q.2.set k v), fs.2.2.2)))) else none
    | none => none
  | _ => none
/-- a cell with one field changed -/
theorem k_field {α : List Nat} {H1 : Heap} {a : Nat} {q : kCel} {r : vw_C} {cell : Cell} {k : Nat} {v w : Value} {ci : Nat} (hci : q.1 = ci) (e1 : (kcl E)[ci]? = some r) (hap : ∀ x y, x < r.2.2 → y < r.2.2 → x ≠ y → kdI E ci x ≠ kdI E ci y) (q3 : cell.vm = .none) (e2 : cell.cls = kdC E ci) (e3 : q.2.length = r.2.2) (e4 : ∀ (j : Nat) (v : Value), q.2[j]? = some v → ∃ w, kv α v = some w ∧ cell.slots[kdI E ci j]? = some w) (hk : k < r.2.2) (hv : kv α v = some w) (hH : H1[a]? = some (cell.setSlot (kdI E ci k) w)) : kAt E s α H1 a (q.1, q.2.set k v) := by
  subst hci
  have hV : ∀ j, j < r.2.2 → cell.slots[kdI E q.1 j]? = some ((cell.slots[kdI E q.1 j]?).getD .null) := fun j hj => by
    obtain ⟨w9, -, h9⟩ := e4 j _ (List.getElem?_eq_getElem (by omega))
    rw [h9]; rfl
  have h5 := t_set hV hap hk w
  refine ⟨_, hH, q3, Or.inl ⟨r, e1, e2, by simpa using e3, fun j x hj => ?_⟩⟩
  have hjl : j < r.2.2 := by
    have := (List.getElem?_eq_some_iff.mp hj).1
    simp at this; omega
  by_cases hjk : j = k
  · subst hjk
    rw [List.getElem?_set_self (by omega)] at hj
    cases hj
    exact ⟨w, hv, by rw [h5 j hjl]; simp [updV]⟩
  · rw [List.getElem?_set_ne (Ne.symm hjk)] at hj
    obtain ⟨w9, g1, g2⟩ := e4 j x hj
    refine ⟨w9, g1, ?_⟩
    rw [h5 j hjl]
    simp [updV, hjk, g2]
theorem ok_put {n ci k ix : Nat} {ref Cn : String} {T : u_T} {N : Nat} {ty : FieldType} (C : kCx E XX σ zs p l e R s m args below meth c α0 cc nL nc0 ns0 res own ws) (hn : kn E = n) (hin : ∀ w ∈ u_ws Cn T N, w ∈ ws) (ty0 : Nat → FieldType) (hty : ∀ k, k < N → parseFieldDescriptor (T k).2.2.1 = some (ty0 k)) (hnm : ∀ a, a < N → ∀ b, b < N → a ≠ b → (T a).2.1 ≠ (T b).2.1) (hc : (kcl E)[ci]? = some (Cn, T, N)) (hk : k < N) (hlink : Cond.fieldLink own ix ref (T k).2.1 (T k).2.2.1 ∈ ws) (hsame : ∀ x, s.fieldFound? (T k).1 (T k).2.1 (T k).2.2.1 = some x → s.fieldFound? ref (T k).2.1 (T k).2.2.1 = some x) (hfin : (T k).2.2.2 = false ∨ ((T k).2.2.2 = true ∧ meth.name = "<init>" ∧ (T k).1 = own)) (ht : ty0 k = ty) (hd : decode cc pc = .ok (.putfield ix, 3)) : kOK E p l e R s m args below meth c α0 nL nc0 ns0 res pc (kTo (pc + 3)) (oPut n ci k ty) := by
  intro fs r h
  obtain ⟨L, S0, hh, nc, ns⟩ := fs
  unfold oPut at h
  split at h
  · rename_i v a S hS
    simp only at hS
    subst hS
    split at h
    · rename_i q hq
      cases hb : (Nat.beq q.1 ci && (Nat.blt k q.2.length && kfit ty v)) with
      | false => rw [hb] at h; cases h
      | true =>
      rw [hb] at h
      simp only [Bool.and_eq_true] at hb
      obtain ⟨hb1, hb2, hb3⟩ := hb
      cases h
      refine ⟨Nat.le_refl _, Nat.le_refl _, fun _ _ k2 => ?_⟩
      intro α H locs ls lv st hp hR hV hL hl hs h1 h2
      obtain ⟨w, st1, rfl, hw, hs1⟩ := kvS_cons hs
      obtain ⟨a1, st, rfl, ha, hx⟩ := kvS_ref hs1
      obtain ⟨g1, g2⟩ := kcell_spec hq
      subst hn
      obtain ⟨ha0, cell, q1, q3, q4⟩ := hR.at g1 g2 ha
      have hci : q.1 = ci := Nat.eq_of_beq_eq_true hb1
      rcases q4 with ⟨r, e1, e2, e3, e4⟩ | ⟨e1, -⟩
      · rw [hci] at e1 e2 e4
        have hr : r = (Cn, T, N) := Option.some.inj (e1.symm.trans hc)
        subst hr
        have hap := k_apart C hin ty0 hty hnm hc
        obtain ⟨hSl, hfc, kC, hkC, hkind⟩ := C.2.2.2.2.2.2.1.2.1 ci _ hc
        obtain ⟨cf, kf, fi, f, hi, hsl⟩ := hSl k hk
        obtain ⟨f1, f2⟩ := kfit_ok hb3 hw
        have hts := C.2.2.2.2.1
        have hst := (u_facts hfc hkC (u_lays hts hin hk) hi).1
        have hlay := hts _ (hin _ (u_in_lay hk))
        unfold u_lay at hlay
        have hsz : f.slot < cell.slots.size := by
          obtain ⟨w9, -, h9⟩ := e4 k _ (List.getElem?_eq_getElem (Nat.lt_of_lt_of_eq hk e3.symm))
          rw [hsl]; exact k2_hasslot h9
        have fin : ∀ H' : Heap, H'[a1]? = some (cell.setSlot f.slot w) → H'.size = H.size → (∀ q, q ≠ a1 → H'[q]? = H[q]?) → W p l e R s m args below meth c H' (locs ++ [⟨a1, f.slot⟩]) (nc - nc0) (ns - ns0) (kQ E below args s α0 nc0 ns0 res) { F0 m pc ls (w :: .ref a1 :: st) with pc := pc + 3, stack := st } := by
          intro H' e5 e6 e7
          rw [hsl] at e5
          refine k2 α H' _ ls lv st hp (hR.put g1 g2 ha (k_field hci hc hap q3 e2 e3 e4 hk hw e5) e7) (hV.put e6 e7 ha0) hL hl hx h1 h2
        rcases hfin with hf | ⟨hf, hf2, hf3⟩
        · rw [if_neg (by rw [hf]; decide)] at hlay
          have h6 := u_store hfc hkC hkind hlay hi (hty k hk) (by rw [ht]; exact f1) (by rw [ht]; exact f2)
          exact W.putK C.1 C.2.1 (f := f) ⟨C.2.2.2.1, hts _ hlink, ⟨_, _, _, hsame _ hi⟩, hst⟩ (by rw [e2]; exact h6) q1 q3 hsz rfl rfl hd fin
        · rw [if_pos hf] at hlay
          have hcf : m.cls = cf := by
            obtain ⟨_, _, c', _, _, _, -, -, hf', -, -, -, hown2, -⟩ := Cond.laysFinal_spec hlay
            have e8 : c' = cf := by have := hi.symm.trans hf'; simp at this; exact this.1.symm
            rw [hf3] at hown2
            rw [← e8]; exact Option.some.inj (C.2.2.2.1.symm.trans hown2)
          have h6 := u_fits hfc hkC hkind (Or.inr hlay) hi (hty k hk) (by rw [ht]; exact f1) (by rw [ht]; exact f2)
          exact W.putFinK C.1 C.2.1 C.2.2.2.1 (hts _ hlink) (hsame _ hi) hst hcf hf2 (by rw [e2]; exact h6) q1 q3 hsz rfl rfl hd fin
      · rw [hci] at e1
        exact absurd (k_classlt C hc) (by omega)
    · cases h
  · cases h
/-- statics that hold a table of ints -/
def oGetS (k : Nat) : kOp := fun fs => some (.inl (0, (fs.1, .ref k :: fs.2.1, fs.2.2)))
theorem ok_gets {k ix : Nat} {Cn nm : String} (C : kCx E XX σ zs p l e R s m args below meth c α0 cc nL nc0 ns0 res own ws) (hz : (Cn, nm, k) ∈ zs) (hlink : Cond.fieldLink own ix Cn nm "[I" ∈ ws) (hd : decode cc pc = .ok (.getstatic ix, 3)) : kOK E p l e R s m args below meth c α0 nL nc0 ns0 res pc (kTo (pc + 3)) (oGetS k) := by
  intro fs r h
  cases h
  refine ⟨Nat.le_refl _, Nat.le_refl _, fun _ _ k2 => ?_⟩
  intro α H locs ls lv st hp hR hV hL hl hs h1 h2
  obtain ⟨a, ha, hZ⟩ := C.2.2.2.2.2.2.1.2.2.2.1 _ hz
  have ha2 : α[k]? = some a := k_pre ha (List.IsPrefix.trans C.2.2.2.2.2.2.2.2.1 hp)
  exact va_gets C.1 C.2.1 hZ hV C.2.2.2.1 (C.2.2.2.2.1 _ hlink) (fun _ h => h) hd (k2 α H locs ls lv _ hp hR hV hL hl (kvS_mk (kv_ref ha2) hs) h1 h2)
def oIald (tb : List (List Int32)) : kOp := fun fs => match fs.2.1 with
  | .int i :: .ref a :: S => match tb[a]? with
    | some t => (match kidx t i with
      | some x => some (.inl (0, (fs.1, .int x :: S, fs.2.2)))
      | none => none)
    | none => (match kcell tb.length fs.2.2.1 a with
      | some q => bif Nat.beq q.1 100 then (match kidx q.2 i with
        | some (.int x) => some (.inl (0, (fs.1, .int x :: S, fs.2.2)))
        | _ => none) else none
      | none => none)
  | _ => none
theorem k_arr {tag : Nat} (hlt : 100 ≤ tag) {α : List Nat} {H : Heap} {a : Nat} {q : kCel} (C : kCx E XX σ zs p l e R s m args below meth c α0 cc nL nc0 ns0 res own ws) (hq : q.1 = tag) (h : kAt E s α H a q) : ∃ cell : Cell, H[a]? = some cell ∧ cell.vm = .none ∧ kAr s cell (kTy tag) ∧ cell.slots.size = q.2.length ∧ ∀ (j : Nat) (v : Value), q.2[j]? = some v → ∃ w, kv α v = some w ∧ cell.slots[j]? = some w := by
  obtain ⟨cell, q1, q3, q4⟩ := h
  rw [hq] at q4
  rcases q4 with ⟨r, e1, -⟩ | ⟨-, e2, e3, e4⟩
  · exact absurd (k_classlt C e1) (by omega)
  · exact ⟨cell, q1, q3, e2, e3, e4⟩
theorem ok_iaload {tb : List (List Int32)} (C : kCx E XX σ zs p l e R s m args below meth c α0 cc nL nc0 ns0 res own ws) (htb : ktb E = tb) (hd : decode cc pc = .ok (.iaload, 1)) : kOK E p l e R s m args below meth c α0 nL nc0 ns0 res pc (kTo (pc + 1)) (oIald tb) := by
  intro fs r h
  obtain ⟨L, S0, hh, nc, ns⟩ := fs
  unfold oIald at h
  split at h
  · rename_i i a S hS
    simp only at hS
    subst hS
    split at h
    · rename_i t ht
      split at h
      · rename_i x hx
        cases h
        refine ⟨Nat.le_refl _, Nat.le_refl _, fun _ _ k2 => ?_⟩
        intro α H locs ls lv st hp hR hV hL hl hs h1 h2
        obtain ⟨st1, rfl, hs1⟩ := kvS_int hs
        obtain ⟨a1, st, rfl, ha, hs2⟩ := kvS_ref hs1
        obtain ⟨i1, i2⟩ := kidx_spec hx
        subst htb
        have hal : a < kn E := (List.getElem?_eq_some_iff.mp ht).1
        have hsl : σ[a]? = some a1 := by
          have h9 : a < σ.length := Nat.lt_of_lt_of_eq hal C.2.2.2.2.2.2.1.1.2.1.symm
          have h10 := k_pre (List.getElem?_eq_getElem h9) (List.IsPrefix.trans C.2.2.2.2.2.2.2.2.1 hp)
          rw [ha] at h10
          rw [List.getElem?_eq_getElem h9, ← h10]
        rcases C.2.2.2.2.2.2.1.2.2.1 a a1 t hsl ht with ⟨-, hT⟩ | ⟨-, z, -⟩ | ⟨-, z⟩
        · refine va_ti C.1 C.2.1 hT hV i1 (v := .int x) ?_ hd (k2 α H locs ls lv _ hp hR hV hL hl (kvS_mk rfl hs2) h1 h2)
          simp [List.getD, i2]
        · rw [z] at i2
          cases i2
        · rw [z] at i2
          cases i2
      · cases h
    · split at h
      · rename_i q hq
        cases hb : Nat.beq q.1 100 with
        | false => rw [hb] at h; cases h
        | true =>
        rw [hb] at h
        simp only [cond_true] at h
        split at h
        · rename_i x hx
          cases h
          refine ⟨Nat.le_refl _, Nat.le_refl _, fun _ _ k2 => ?_⟩
          intro α H locs ls lv st hp hR hV hL hl hs h1 h2
          obtain ⟨st1, rfl, hs1⟩ := kvS_int hs
          obtain ⟨a1, st, rfl, ha, hs2⟩ := kvS_ref hs1
          obtain ⟨i1, i2⟩ := kidx_spec hx
          subst htb
          obtain ⟨g1, g2⟩ := kcell_spec hq
          obtain ⟨ha0, hat⟩ := hR.at (show kn E ≤ a from g1) g2 ha
          obtain ⟨cell, q1, q3, q4, q5, q6⟩ := k_arr (tag := 100) (Nat.le_refl _) C (Nat.eq_of_beq_eq_true hb) hat
          obtain ⟨w, w1, w2⟩ := q6 _ _ i2
          cases w1
          refine W.iald C.1 C.2.1 q1 (q4.is q3) (by rw [q3]; exact fun h => by cases h) (by rw [q5]; exact i1) w2 rfl rfl hd ?_
          exact k2 α H locs ls lv _ hp hR hV hL hl (kvS_mk rfl hs2) h1 h2
        · cases h
      · cases h
  · cases h
def oLald (n : Nat) : kOp := fun fs => match fs.2.1 with
  | .int i :: .ref a :: S => (match kcell n fs.2.2.1 a with
      | some q => bif Nat.beq q.1 101 then (match kidx q.2 i with
        | some (.long x) => some (.inl (0, (fs.1, .long x :: S, fs.2.2)))
        | _ => none) else none
      | none => none)
  | _ => none
theorem ok_laload {n : Nat} (C : kCx E XX σ zs p l e R s m args below meth c α0 cc nL nc0 ns0 res own ws) (hn : kn E = n) (hd : decode cc pc = .ok (.laload, 1)) : kOK E p l e R s m args below meth c α0 nL nc0 ns0 res pc (kTo (pc + 1)) (oLald n) := by
  intro fs r h
  obtain ⟨L, S0, hh, nc, ns⟩ := fs
  unfold oLald at h
  split at h
  · rename_i i a S hS
    simp only at hS
    subst hS
    split at h
    · rename_i q hq
      cases hb : Nat.beq q.1 101 with
      | false => rw [hb] at h; cases h
      | true =>
      rw [hb] at h
      simp only [cond_true] at h
      split at h
      · rename_i x hx
        cases h
        refine ⟨Nat.le_refl _, Nat.le_refl _, fun _ _ k2 => ?_⟩
        intro α H locs ls lv st hp hR hV hL hl hs h1 h2
        obtain ⟨st1, rfl, hs1⟩ := kvS_int hs
        obtain ⟨a1, st, rfl, ha, hs2⟩ := kvS_ref hs1
        obtain ⟨i1, i2⟩ := kidx_spec hx
        subst hn
        obtain ⟨g1, g2⟩ := kcell_spec hq
        obtain ⟨ha0, hat⟩ := hR.at g1 g2 ha
        obtain ⟨cell, q1, q3, q4, q5, q6⟩ := k_arr (tag := 101) (by decide) C (Nat.eq_of_beq_eq_true hb) hat
        obtain ⟨w, w1, w2⟩ := q6 _ _ i2
        cases w1
        refine W.lald C.1 C.2.1 q1 (q4.is q3) (by rw [q3]; exact fun h => by cases h) (by rw [q5]; exact i1) w2 rfl rfl hd ?_
        exact k2 α H locs ls lv _ hp hR hV hL hl (kvS_mk rfl hs2) h1 h2
      · cases h
    · cases h
  · cases h
def oDald (n : Nat) : kOp := fun fs => match fs.2.1 with
  | .int i :: .ref a :: S => (match kcell n fs.2.2.1 a with
      | some q => bif Nat.beq q.1 102 then (match kidx q.2 i with
        | some (.double x) => some (.inl (0, (fs.1, .double x :: S, fs.2.2)))
        | _ => none) else none
      | none => none)
  | _ => none
theorem ok_daload {n : Nat} (C : kCx E XX σ zs p l e R s m args below meth c α0 cc nL nc0 ns0 res own ws) (hn : kn E = n) (hd : decode cc pc = .ok (.daload, 1)) : kOK E p l e R s m args below meth c α0 nL nc0 ns0 res pc (kTo (pc + 1)) (oDald n) := by
  intro fs r h
  obtain ⟨L, S0, hh, nc, ns⟩ := fs
  unfold oDald at h
  split at h
  · rename_i i a S hS
    simp only at hS
    subst hS
    split at h
    · rename_i q hq
      cases hb : Nat.beq q.1 102 with
      | false => rw [hb] at h; cases h
      | true =>
      rw [hb] at h
      simp only [cond_true] at h
      split at h
      · rename_i x hx
        cases h
        refine ⟨Nat.le_refl _, Nat.le_refl _, fun _ _ k2 => ?_⟩
        intro α H locs ls lv st hp hR hV hL hl hs h1 h2
        obtain ⟨st1, rfl, hs1⟩ := kvS_int hs
        obtain ⟨a1, st, rfl, ha, hs2⟩ := kvS_ref hs1
        obtain ⟨i1, i2⟩ := kidx_spec hx
        subst hn
        obtain ⟨g1, g2⟩ := kcell_spec hq
        obtain ⟨ha0, hat⟩ := hR.at g1 g2 ha
        obtain ⟨cell, q1, q3, q4, q5, q6⟩ := k_arr (tag := 102) (by decide) C (Nat.eq_of_beq_eq_true hb) hat
        obtain ⟨w, w1, w2⟩ := q6 _ _ i2
        cases w1
        refine W.dald C.1 C.2.1 q1 (q4.is q3) (by rw [q3]; exact fun h => by cases h) (by rw [q5]; exact i1) w2 rfl rfl hd ?_
        exact k2 α H locs ls lv _ hp hR hV hL hl (kvS_mk rfl hs2) h1 h2
      · cases h
    · cases h
  · cases h
def oZald (n : Nat) : kOp := fun fs => match fs.2.1 with
  | .int i :: .ref a :: S => (match kcell n fs.2.2.1 a with
      | some q => bif Nat.beq q.1 103 then (match kidx q.2 i with
        | some (.int x) => some (.inl (0, (fs.1, .int x :: S, fs.2.2)))
        | _ => none) else none
      | none => none)
  | _ => none
theorem ok_baload {n : Nat} (C : kCx E XX σ zs p l e R s m args below meth c α0 cc nL nc0 ns0 res own ws) (hn : kn E = n) (hd : decode cc pc = .ok (.baload, 1)) : kOK E p l e R s m args below meth c α0 nL nc0 ns0 res pc (kTo (pc + 1)) (oZald n) := by
  intro fs r h
  obtain ⟨L, S0, hh, nc, ns⟩ := fs
  unfold oZald at h
  split at h
  · rename_i i a S hS
    simp only at hS
    subst hS
    split at h
    · rename_i q hq
      cases hb : Nat.beq q.1 103 with
      | false => rw [hb] at h; cases h
      | true =>
      rw [hb] at h
      simp only [cond_true] at h
      split at h
      · rename_i x hx
        cases h
        refine ⟨Nat.le_refl _, Nat.le_refl _, fun _ _ k2 => ?_⟩
        intro α H locs ls lv st hp hR hV hL hl hs h1 h2
        obtain ⟨st1, rfl, hs1⟩ := kvS_int hs
        obtain ⟨a1, st, rfl, ha, hs2⟩ := kvS_ref hs1
        obtain ⟨i1, i2⟩ := kidx_spec hx
        subst hn
        obtain ⟨g1, g2⟩ := kcell_spec hq
        obtain ⟨ha0, hat⟩ := hR.at g1 g2 ha
        obtain ⟨cell, q1, q3, q4, q5, q6⟩ := k_arr (tag := 103) (by decide) C (Nat.eq_of_beq_eq_true hb) hat
        obtain ⟨w, w1, w2⟩ := q6 _ _ i2
        cases w1
        refine W.zald C.1 C.2.1 q1 (q4.is q3) (by rw [q3]; exact fun h => by cases h) (by rw [q5]; exact i1) w2 rfl rfl hd ?_
        exact k2 α H locs ls lv _ hp hR hV hL hl (kvS_mk rfl hs2) h1 h2
      · cases h
    · cases h
  · cases h
/-- an array with one place changed -/
theorem k_elem {α : List Nat} {H1 : Heap} {a j : Nat} {q : kCel} {cell : Cell} {v w : Value} (h100 : 100 ≤ q.1) (q3 : cell.vm = .none) (q4 : kAr s cell (kTy q.1)) (q5 : cell.slots.size = q.2.length) (q6 : ∀ (j : Nat) (v : Value), q.2[j]? = some v → ∃ w, kv α v = some w ∧ cell.slots[j]? = some w) (hj : j < q.2.length) (hv : kv α v = some w) (hH : H1[a]? = some (cell.setSlot j w)) : kAt E s α H1 a (q.1, q.2.set j v) := by
  refine ⟨_, hH, q3, Or.inr ⟨h100, q4, ?_, fun i x hi => ?_⟩⟩
  · show (cell.slots.setIfInBounds j w).size = _
    simp [q5]
  · show ∃ w9, _ ∧ (cell.slots.setIfInBounds j w)[i]? = _
    by_cases hij : i = j
    · subst hij
      rw [List.getElem?_set_self hj] at hi
      cases hi
      exact ⟨w, hv, by rw [Array.getElem?_setIfInBounds_self_of_lt (by omega)]⟩
    · rw [List.getElem?_set_ne (Ne.symm hij)] at hi
      obtain ⟨w9, g1, g2⟩ := q6 i x hi
      exact ⟨w9, g1, by rw [Array.getElem?_setIfInBounds_ne (Ne.symm hij)]; exact g2⟩
def oIast (n : Nat) : kOp := fun fs => match fs.2.1 with
  | .int x :: .int i :: .ref a :: S => (match kcell n fs.2.2.1 a with
      | some q => bif Nat.beq q.1 100 then (match kidx q.2 i with
        | some _ => some (.inl (0, (fs.1, S, (fs.2.2.1.set (a - n) (q.1, q.2.set i.toNatClampNeg (.int x)), fs.2.2.2))))
        | none => none) else none
      | none => none)
  | _ => none
theorem ok_iastore {n : Nat} (C : kCx E XX σ zs p l e R s m args below meth c α0 cc nL nc0 ns0 res own ws) (hn : kn E = n) (hd : decode cc pc = .ok (.iastore, 1)) : kOK E p l e R s m args below meth c α0 nL nc0 ns0 res pc (kTo (pc + 1)) (oIast n) := by
  intro fs r h
  obtain ⟨L, S0, hh, nc, ns⟩ := fs
  unfold oIast at h
  split at h
  · rename_i x i a S hS
    simp only at hS
    subst hS
    split at h
    · rename_i q hq
      cases hb : (Nat.beq q.1 100) with
      | false => rw [hb] at h; cases h
      | true =>
      rw [hb] at h
      
      simp only [cond_true] at h
      split at h
      · rename_i y hx
        cases h
        refine ⟨Nat.le_refl _, Nat.le_refl _, fun _ _ k2 => ?_⟩
        intro α H locs ls lv st hp hR hV hL hl hs h1 h2
        obtain ⟨st0, rfl, hs0⟩ := kvS_int hs
        obtain ⟨st1, rfl, hs1⟩ := kvS_int hs0
        obtain ⟨a1, st, rfl, ha, hs2⟩ := kvS_ref hs1
        obtain ⟨i1, i2⟩ := kidx_spec hx
        subst hn
        obtain ⟨g1, g2⟩ := kcell_spec hq
        obtain ⟨ha0, hat⟩ := hR.at g1 g2 ha
        have hq1 : q.1 = 100 := Nat.eq_of_beq_eq_true hb
        obtain ⟨cell, q1, q3, q4, q5, q6⟩ := k_arr (tag := 100) (by decide) C hq1 hat
        have hil := (List.getElem?_eq_some_iff.mp i2).1
        refine W.iast C.1 C.2.1 q1 (q4.is q3) (by rw [q3]; exact fun h => by cases h) (by rw [q5]; exact i1) rfl rfl hd fun H' e5 e6 e7 => ?_
        
        exact k2 α H' _ ls lv st hp (hR.put g1 g2 ha (k_elem (by omega) q3 (by rw [hq1]; exact q4) q5 q6 hil rfl e5) e7) (hV.put e6 e7 ha0) hL hl hs2 h1 h2
      · cases h
    · cases h
  · cases h
def oLast (n : Nat) : kOp := fun fs => match fs.2.1 with
  | .long x :: .int i :: .ref a :: S => (match kcell n fs.2.2.1 a with
      | some q => bif Nat.beq q.1 101 then (match kidx q.2 i with
        | some _ => some (.inl (0, (fs.1, S, (fs.2.2.1.set (a - n) (q.1, q.2.set i.toNatClampNeg (.long x)), fs.2.2.2))))
        | none => none) else none
      | none => none)
  | _ => none
theorem ok_lastore {n : Nat} (C : kCx E XX σ zs p l e R s m args below meth c α0 cc nL nc0 ns0 res own ws) (hn : kn E = n) (hd : decode cc pc = .ok (.lastore, 1)) : kOK E p l e R s m args below meth c α0 nL nc0 ns0 res pc (kTo (pc + 1)) (oLast n) := by
  intro fs r h
  obtain ⟨L, S0, hh, nc, ns⟩ := fs
  unfold oLast at h
  split at h
  · rename_i x i a S hS
    simp only at hS
    subst hS
    split at h
    · rename_i q hq
      cases hb : (Nat.beq q.1 101) with
      | false => rw [hb] at h; cases h
      | true =>
      rw [hb] at h
      
      simp only [cond_true] at h
      split at h
      · rename_i y hx
        cases h
        refine ⟨Nat.le_refl _, Nat.le_refl _, fun _ _ k2 => ?_⟩
        intro α H locs ls lv st hp hR hV hL hl hs h1 h2
        obtain ⟨st0, rfl, hs0⟩ := kvS_long hs
        obtain ⟨st1, rfl, hs1⟩ := kvS_int hs0
        obtain ⟨a1, st, rfl, ha, hs2⟩ := kvS_ref hs1
        obtain ⟨i1, i2⟩ := kidx_spec hx
        subst hn
        obtain ⟨g1, g2⟩ := kcell_spec hq
        obtain ⟨ha0, hat⟩ := hR.at g1 g2 ha
        have hq1 : q.1 = 101 := Nat.eq_of_beq_eq_true hb
        obtain ⟨cell, q1, q3, q4, q5, q6⟩ := k_arr (tag := 101) (by decide) C hq1 hat
        have hil := (List.getElem?_eq_some_iff.mp i2).1
        refine W.last C.1 C.2.1 q1 (q4.is q3) (by rw [q3]; exact fun h => by cases h) (by rw [q5]; exact i1) rfl rfl hd fun H' e5 e6 e7 => ?_
        
        exact k2 α H' _ ls lv st hp (hR.put g1 g2 ha (k_elem (by omega) q3 (by rw [hq1]; exact q4) q5 q6 hil rfl e5) e7) (hV.put e6 e7 ha0) hL hl hs2 h1 h2
      · cases h
    · cases h
  · cases h
def oDast (n : Nat) : kOp := fun fs => match fs.2.1 with
  | .double x :: .int i :: .ref a :: S => (match kcell n fs.2.2.1 a with
      | some q => bif Nat.beq q.1 102 then (match kidx q.2 i with
        | some _ => some (.inl (0, (fs.1, S, (fs.2.2.1.set (a - n) (q.1, q.2.set i.toNatClampNeg (.double x)), fs.2.2.2))))
        | none => none) else none
      | none => none)
  | _ => none
theorem ok_dastore {n : Nat} (C : kCx E XX σ zs p l e R s m args below meth c α0 cc nL nc0 ns0 res own ws) (hn : kn E = n) (hd : decode cc pc = .ok (.dastore, 1)) : kOK E p l e R s m args below meth c α0 nL nc0 ns0 res pc (kTo (pc + 1)) (oDast n) := by
  intro fs r h
  obtain ⟨L, S0, hh, nc, ns⟩ := fs
  unfold oDast at h
  split at h
  · rename_i x i a S hS
    simp only at hS
    subst hS
    split at h
    · rename_i q hq
      cases hb : (Nat.beq q.1 102) with
      | false => rw [hb] at h; cases h
      | true =>
      rw [hb] at h
      
      simp only [cond_true] at h
      split at h
      · rename_i y hx
        cases h
        refine ⟨Nat.le_refl _, Nat.le_refl _, fun _ _ k2 => ?_⟩
        intro α H locs ls lv st hp hR hV hL hl hs h1 h2
        obtain ⟨st0, rfl, hs0⟩ := kvS_double hs
        obtain ⟨st1, rfl, hs1⟩ := kvS_int hs0
        obtain ⟨a1, st, rfl, ha, hs2⟩ := kvS_ref hs1
        obtain ⟨i1, i2⟩ := kidx_spec hx
        subst hn
        obtain ⟨g1, g2⟩ := kcell_spec hq
        obtain ⟨ha0, hat⟩ := hR.at g1 g2 ha
        have hq1 : q.1 = 102 := Nat.eq_of_beq_eq_true hb
        obtain ⟨cell, q1, q3, q4, q5, q6⟩ := k_arr (tag := 102) (by decide) C hq1 hat
        have hil := (List.getElem?_eq_some_iff.mp i2).1
        refine W.dast C.1 C.2.1 q1 (q4.is q3) (by rw [q3]; exact fun h => by cases h) (by rw [q5]; exact i1) rfl rfl hd fun H' e5 e6 e7 => ?_
        
        exact k2 α H' _ ls lv st hp (hR.put g1 g2 ha (k_elem (by omega) q3 (by rw [hq1]; exact q4) q5 q6 hil rfl e5) e7) (hV.put e6 e7 ha0) hL hl hs2 h1 h2
      · cases h
    · cases h
  · cases h
def oZast (n : Nat) : kOp := fun fs => match fs.2.1 with
  | .int x :: .int i :: .ref a :: S => (match kcell n fs.2.2.1 a with
      | some q => bif Nat.beq q.1 103 && (x == 0 || x == 1) then (match kidx q.2 i with
        | some _ => some (.inl (0, (fs.1, S, (fs.2.2.1.set (a - n) (q.1, q.2.set i.toNatClampNeg (.int x)), fs.2.2.2))))
        | none => none) else none
      | none => none)
  | _ => none
theorem ok_bastore {n : Nat} (C : kCx E XX σ zs p l e R s m args below meth c α0 cc nL nc0 ns0 res own ws) (hn : kn E = n) (hd : decode cc pc = .ok (.bastore, 1)) : kOK E p l e R s m args below meth c α0 nL nc0 ns0 res pc (kTo (pc + 1)) (oZast n) := by
  intro fs r h
  obtain ⟨L, S0, hh, nc, ns⟩ := fs
  unfold oZast at h
  split at h
  · rename_i x i a S hS
    simp only at hS
    subst hS
    split at h
    · rename_i q hq
      cases hb : (Nat.beq q.1 103 && (x == 0 || x == 1)) with
      | false => rw [hb] at h; cases h
      | true =>
      rw [hb] at h
      simp only [Bool.and_eq_true, Bool.or_eq_true, beq_iff_eq] at hb
      simp only [cond_true] at h
      split at h
      · rename_i y hx
        cases h
        refine ⟨Nat.le_refl _, Nat.le_refl _, fun _ _ k2 => ?_⟩
        intro α H locs ls lv st hp hR hV hL hl hs h1 h2
        obtain ⟨st0, rfl, hs0⟩ := kvS_int hs
        obtain ⟨st1, rfl, hs1⟩ := kvS_int hs0
        obtain ⟨a1, st, rfl, ha, hs2⟩ := kvS_ref hs1
        obtain ⟨i1, i2⟩ := kidx_spec hx
        subst hn
        obtain ⟨g1, g2⟩ := kcell_spec hq
        obtain ⟨ha0, hat⟩ := hR.at g1 g2 ha
        have hq1 : q.1 = 103 := Nat.eq_of_beq_eq_true hb.1
        obtain ⟨cell, q1, q3, q4, q5, q6⟩ := k_arr (tag := 103) (by decide) C hq1 hat
        have hil := (List.getElem?_eq_some_iff.mp i2).1
        refine W.zast C.1 C.2.1 q1 (q4.is q3) (by rw [q3]; exact fun h => by cases h) (by rw [q5]; exact i1) rfl rfl hd fun H' e5 e6 e7 => ?_
        rw [show narrow .boolean (.int x) = .int x by rcases hb.2 with rfl | rfl <;> rfl] at e5
        exact k2 α H' _ ls lv st hp (hR.put g1 g2 ha (k_elem (by omega) q3 (by rw [hq1]; exact q4) q5 q6 hil rfl e5) e7) (hV.put e6 e7 ha0) hL hl hs2 h1 h2
      · cases h
    · cases h
  · cases h
def oAlen (tb : List (List Int32)) : kOp := fun fs => match fs.2.1 with
  | .ref a :: S => match tb[a]? with
    | some t => bif Nat.ble a 8 then some (.inl (0, (fs.1, .int (Int32.ofNat t.length) :: S, fs.2.2))) else none
    | none => (match kcell tb.length fs.2.2.1 a with
      | some q => bif Nat.ble 100 q.1 then some (.inl (0, (fs.1, .int (Int32.ofNat q.2.length) :: S, fs.2.2))) else none
      | none => none)
  | _ => none
theorem ok_alen {tb : List (List Int32)} (C : kCx E XX σ zs p l e R s m args below meth c α0 cc nL nc0 ns0 res own ws) (htb : ktb E = tb) (hd : decode cc pc = .ok (.arraylength, 1)) : kOK E p l e R s m args below meth c α0 nL nc0 ns0 res pc (kTo (pc + 1)) (oAlen tb) := by
  intro fs r h
  obtain ⟨L, S0, hh, nc, ns⟩ := fs
  unfold oAlen at h
  split at h
  · rename_i a S hS
    simp only at hS
    subst hS
    split at h
    · rename_i t ht
      cases hg8 : Nat.ble a 8 with
      | false => rw [hg8] at h; cases h
      | true =>
      rw [hg8] at h
      cases h
      refine ⟨Nat.le_refl _, Nat.le_refl _, fun _ _ k2 => ?_⟩
      intro α H locs ls lv st hp hR hV hL hl hs h1 h2
      obtain ⟨a1, st, rfl, ha, hs2⟩ := kvS_ref hs
      subst htb
      have hsl : σ[a]? = some a1 := by
        have h8 := (List.getElem?_eq_some_iff.mp ht).1
        have h9 : a < σ.length := Nat.lt_of_lt_of_eq h8 C.2.2.2.2.2.2.1.1.2.1.symm
        have h10 := k_pre (List.getElem?_eq_getElem h9) (List.IsPrefix.trans C.2.2.2.2.2.2.2.2.1 hp)
        rw [ha] at h10
        rw [List.getElem?_eq_getElem h9, ← h10]
      rcases C.2.2.2.2.2.2.1.2.2.1 a a1 t hsl ht with ⟨-, hT⟩ | ⟨-, z, hT⟩ | ⟨z, -⟩
      · exact va_tlen C.1 C.2.1 hT hV rfl hd (k2 α H locs ls lv _ hp hR hV hL hl (kvS_mk rfl hs2) h1 h2)
      · subst z
        exact va_tlen C.1 C.2.1 hT hV rfl hd (k2 α H locs ls lv _ hp hR hV hL hl (kvS_mk rfl hs2) h1 h2)
      · exact absurd (Nat.le_of_ble_eq_true hg8) (by omega)
    · split at h
      · rename_i q hq
        cases hb : Nat.ble 100 q.1 with
        | false => rw [hb] at h; cases h
        | true =>
        rw [hb] at h
        cases h
        refine ⟨Nat.le_refl _, Nat.le_refl _, fun _ _ k2 => ?_⟩
        intro α H locs ls lv st hp hR hV hL hl hs h1 h2
        obtain ⟨a1, st, rfl, ha, hs2⟩ := kvS_ref hs
        subst htb
        obtain ⟨g1, g2⟩ := kcell_spec hq
        obtain ⟨ha0, hat⟩ := hR.at (show kn E ≤ a from g1) g2 ha
        obtain ⟨cell, q1, q3, q4, q5, q6⟩ := k_arr (tag := q.1) (Nat.le_of_ble_eq_true hb) C rfl hat
        refine W.alen (n := Int32.ofNat q.2.length) C.1 C.2.1 q1 (q4.is q3) (by rw [q5]) rfl rfl hd ?_
        exact k2 α H locs ls lv _ hp hR hV hL hl (kvS_mk rfl hs2) h1 h2
      · cases h
  · cases h
def kdef : Nat → Value := fun t => match t with
  | 100 => .int 0
  | 101 => .long 0
  | 102 => .double 0
  | 103 => .int 0
  | _ => .null
def oNewa (n tag : Nat) : kOp := fun fs => match fs.2.1 with
  | .int i :: S => bif decide (i < 0) || Nat.blt 1000000 i.toNatClampNeg then none else some (.inl (0, (fs.1, .ref (n + fs.2.2.1.length) :: S, (fs.2.2.1 ++ [(tag, List.replicate i.toNatClampNeg (kdef tag))], fs.2.2.2.1 + 1, fs.2.2.2.2 + i.toNatClampNeg))))
  | _ => none
theorem k_cv {U : State} {α : List Nat} {v : Value} (h : v = .int 0 ∨ v = .long 0 ∨ v = .double 0 ∨ v = .null) : kv α v = some v := by
  rcases h with rfl | rfl | rfl | rfl <;> rfl
theorem kdef_cv {α : List Nat} (t : Nat) : kv α (kdef t) = some (kdef t) := by
  unfold kdef
  split <;> rfl
theorem ok_newa {n tag : Nat} {atype : ArrayType} (C : kCx E XX σ zs p l e R s m args below meth c α0 cc nL nc0 ns0 res own ws) (hn : kn E = n) (h100 : 100 ≤ tag) (hty : newarray.typeOf atype = kTy tag) (hdv : defaultValue (kTy tag) = kdef tag) (hcb : componentBytes (kTy tag) ≤ 8) (hno : ∀ Cn, kTy tag ≠ .object Cn) (hw : Cond.arrayClass (kTy tag) ∈ ws) (hd : decode cc pc = .ok (.newarray atype, 2)) : kOK E p l e R s m args below meth c α0 nL nc0 ns0 res pc (kTo (pc + 2)) (oNewa n tag) := by
  intro fs r h
  obtain ⟨L, S0, hh, nc, ns⟩ := fs
  unfold oNewa at h
  split at h
  · rename_i i S hS
    simp only at hS
    subst hS
    cases hb : (decide (i < 0) || Nat.blt 1000000 i.toNatClampNeg) with
    | true => rw [hb] at h; cases h
    | false =>
    rw [hb] at h
    cases h
    simp only [Bool.or_eq_false_iff, decide_eq_false_iff_not] at hb
    have hle : i.toNatClampNeg ≤ 1000000 := by
      have h9 := hb.2
      unfold Nat.blt at h9
      have := Nat.not_le_of_not_ble_eq_true (by rw [h9]; decide)
      omega
    refine ⟨Nat.le_succ _, Nat.le_add_right _ _, fun b1 b2 k2 => ?_⟩
    intro α H locs ls lv st hp hR hV hL hl hs h1 h2
    dsimp only at b1 b2 h1 h2
    obtain ⟨st, rfl, hs2⟩ := kvS_int hs
    subst hn
    have hRc := C.2.2.2.2.2.2.2.2.2.2.1
    have hRs := C.2.2.2.2.2.2.2.2.2.2.2.1
    have hc1 : nc - nc0 + 1 ≤ R.cells := by refine Nat.le_trans ?_ hRc; omega
    have hc2 : ns - ns0 + i.toNatClampNeg ≤ R.slots := by refine Nat.le_trans ?_ hRs; omega
    refine W.newa C.1 C.2.1 (by rw [hty]; exact C.2.2.2.2.1 _ hw) rfl hd rfl hb.1 (by rw [hty]; calc
        _ ≤ 1000000 * 8 := Nat.mul_le_mul hle hcb
        _ ≤ _ := by decide) hc1 hc2 fun cA kA comp f1 f2 f3 => ?_
    generalize hH1 : H.push ({ cls := cA, slots := Array.replicate i.toNatClampNeg (defaultValue (newarray.typeOf atype)), vm := .none } : Cell) = H1
    have z1 : H1.size = H.size + 1 := by rw [← hH1, Array.size_push]
    have e1 : H1[H.size]? = some ({ cls := cA, slots := Array.replicate i.toNatClampNeg (defaultValue (newarray.typeOf atype)), vm := .none } : Cell) := by rw [← hH1, Array.getElem?_push_size]
    have o1 : ∀ q : Nat, q < H.size → H1[q]? = H[q]? := fun q hq => by rw [← hH1, Array.getElem?_push, if_neg (Nat.ne_of_lt hq)]
    have hbH : kb E ≤ H.size := Nat.le_trans C.2.2.2.2.2.2.1.1.2.2 hV.1
    have hat : kAt E s (α ++ [H.size]) H1 H.size (tag, List.replicate i.toNatClampNeg (kdef tag)) := by
      refine ⟨_, e1, rfl, Or.inr ⟨h100, ⟨kA, comp, f2, by rw [f3, hty], fun Cn hCn => absurd hCn (hno Cn), fun hI => (by rw [hty, show kTy tag = .int from hI] at f1; exact f1), fun hI => (by rw [show kTy (tag, List.replicate i.toNatClampNeg (kdef tag)).1 = kTy tag from rfl, ← hty] at hI; cases atype <;> cases hI)⟩, by simp, fun j v hj => ?_⟩⟩
      obtain ⟨hjl, hje⟩ := List.getElem?_eq_some_iff.mp hj
      simp at hjl hje
      subst hje
      refine ⟨kdef tag, kdef_cv tag, ?_⟩
      show (Array.replicate i.toNatClampNeg (defaultValue (newarray.typeOf atype)))[j]? = _
      rw [hty, hdv]
      simp [hjl]
    have hpp := List.prefix_append α [H.size]
    have k3 := k2 (α ++ [H.size]) H1 locs ls lv (.ref H.size :: st) (List.IsPrefix.trans hp hpp) (hR.push (Nat.le_refl _) hbH hat o1 hR.lt) ⟨by rw [z1]; exact Nat.le_succ_of_le hV.1, fun x g1 g2 => (o1 x (Nat.lt_of_lt_of_le g1 hV.1)).trans (hV.2.1 x g1 g2), hV.2.2⟩ (kvL_mono hpp hL) hl (kvS_mk (kv_ref (by
      show (α ++ [H.size])[kn E + hh.length]? = _
      rw [show kn E + hh.length = α.length by have := hR.1; dsimp only at this; omega, List.getElem?_append_right (Nat.le_refl _), Nat.sub_self]; rfl)) (kvS_mono hpp hs2)) (by dsimp only; omega) (by dsimp only; omega)
    dsimp only at k3 ⊢
    rw [show nc - nc0 + 1 = nc + 1 - nc0 by omega, show ns - ns0 + i.toNatClampNeg = ns + i.toNatClampNeg - ns0 by omega]
    exact k3
  · cases h
end KHEAP
