/-! ===== a private field of a nest mate; words of methods with handlers; handlers by their numbers ===== -/
section KC
variable {p : Program} {l : Launch} {e : Env} {R : Room} {s : State} {m : MethodId} {args : Array Value} {below : List Frame} {meth : Method} {c : Code}
variable {E : kE} {XX : State → Prop} {σ α0 : List Nat} {cc : ByteArray} {nL nc0 ns0 : Nat} {res : kRes} {pc pc' : Nat} {own : String} {ws : List Cond} {zs : List (String × String × Nat)}
theorem ok_getN {n ci k ix : Nat} {ref Cn host : String} {T : u_T} {N : Nat} (C : kCx E XX σ zs p l e R s m args below meth c α0 cc nL nc0 ns0 res own ws) (hn : kn E = n) (hin : ∀ w ∈ u_ws Cn T N, w ∈ ws) (hc : (kcl E)[ci]? = some (Cn, T, N)) (hk : k < N) (hlink : va_Nw (.fieldLinkNest own ix ref (T k).2.1 (T k).2.2.1 host) s) (hsame : ∀ x, s.fieldFound? (T k).1 (T k).2.1 (T k).2.2.1 = some x → s.fieldFound? ref (T k).2.1 (T k).2.2.1 = some x) (hd : decode cc pc = .ok (.getfield ix, 3)) : kOK E p l e R s m args below meth c α0 nL nc0 ns0 res pc (kTo (pc + 3)) (oGet n ci k) := by
  intro fs r h
  obtain ⟨L, S0, hh, nc, ns⟩ := fs
  unfold oGet at h
  split at h
  · rename_i a S hS
    simp only at hS
    subst hS
    split at h
    · rename_i q hq
      cases hb : Nat.beq q.1 ci with
      | false => rw [hb] at h; cases h
      | true =>
      rw [hb] at h
      simp only [cond_true] at h
      split at h
      · rename_i v hv
        cases h
        refine ⟨Nat.le_refl _, Nat.le_refl _, fun _ _ k2 => ?_⟩
        intro α H locs ls lv st hp hR hV hL hl hs h1 h2
        obtain ⟨a1, st, rfl, ha, hx⟩ := kvS_ref hs
        obtain ⟨g1, g2⟩ := kcell_spec hq
        subst hn
        obtain ⟨-, cell, q1, q3, q4⟩ := hR.at g1 g2 ha
        have hci : q.1 = ci := Nat.eq_of_beq_eq_true hb
        rcases q4 with ⟨r, e1, e2, e3, e4⟩ | ⟨e1, -⟩
        · rw [hci] at e1 e2 e4
          have hr : r = (Cn, T, N) := Option.some.inj (e1.symm.trans hc)
          subst hr
          obtain ⟨hSl, hfc, kC, hkC, hkind⟩ := C.2.2.2.2.2.2.1.2.1 ci _ hc
          obtain ⟨cf, kf, fi, f, hi, hsl⟩ := hSl k hk
          obtain ⟨w, w1, w2⟩ := e4 k v hv
          refine va_Wgetf C.1 C.2.1 C.2.2.2.1 (va_Nw.use rfl hlink) (hsame _ hi) (u_facts hfc hkC (u_lays C.2.2.2.2.1 hin hk) hi).1 q1 (by rw [q3]; exact fun h => by cases h) (v := w) (by rw [hsl]; exact w2) rfl rfl hd ?_
          exact k2 α H locs ls lv _ hp hR hV hL hl (kvS_mk w1 hx) h1 h2
        · rw [hci] at e1
          exact absurd (k_classlt C hc) (by omega)
      · cases h
    · cases h
  · cases h
end KC
def hkL : List (Nat × Nat × Nat) → Nat → Option (Nat × Nat)
  | [], _ => none
  | e :: r, k => bif Nat.beq e.1 k then some e.2 else hkL r k
theorem hkL_all {P : Nat → Nat × Nat → Prop} : ∀ {L : List (Nat × Nat × Nat)}, (∀ e ∈ L, P e.1 e.2) → ∀ k q, hkL L k = some q → P k q
  | [], _, k, q, h => by cases h
  | e :: r, hP, k, q, h => by
    unfold hkL at h
    cases hb : Nat.beq e.1 k with
    | true =>
      rw [hb] at h
      cases h
      have e1 := Nat.eq_of_beq_eq_true hb
      rw [← e1]
      exact hP e List.mem_cons_self
    | false =>
      rw [hb] at h
      exact hkL_all (fun z hz => hP z (List.mem_cons_of_mem _ hz)) k q h
abbrev kwsH (y : MethodName) (b : ByteArray) (n : Nat) (r : Option FieldType) (hh : List (Nat × Nat × Nat × Nat)) : List Cond := Cond.codeWith y b n r hh :: kG
theorem kG_wsH {c0 : Cond} {y : MethodName} {b : ByteArray} {n : Nat} {r : Option FieldType} {hh : List (Nat × Nat × Nat × Nat)} (h : Cond.codeWith y b n r hh ∈ kG) : GoodIn (c0 :: kG) (kwsH y b n r hh) := kG_good fun w hw => by
  rcases List.mem_cons.mp hw with rfl | hw
  · exact h
  · exact hw
theorem kG_sX {c0 : Cond} {own : String} {ix : Nat} {y : MethodName} {b : ByteArray} {n : Nat} {r : Option FieldType} {hh : List (Nat × Nat × Nat × Nat)} (h : Cond.codeWith y b n r hh ∈ kG) (h1 : Cond.methodLink own ix y ∈ kG) (h2 : Cond.static y ∈ kG) (h3 : Cond.initialized y.cls ∈ kG) : GoodIn (c0 :: kG) (va_wsS own ix y (kwsH y b n r hh)) := kG_good fun w hw => by
  unfold va_wsS at hw
  rcases List.mem_append.mp hw with hw | hw
  · rcases List.mem_cons.mp hw with rfl | hw
    · exact h1
    · rcases List.mem_cons.mp hw with rfl | hw
      · exact h2
      · rcases List.mem_cons.mp hw with rfl | hw
        · exact h3
        · cases hw
  · rcases List.mem_cons.mp hw with rfl | hw
    · exact h
    · exact hw
theorem kG_F {c0 : Cond} {own Cn : String} {ix : Nat} {x y : MethodName} {b : ByteArray} {n : Nat} {r : Option FieldType} (h : Cond.code y b n r ∈ kG) (h1 : Cond.methodLink own ix x ∈ kG) (h2 : Cond.selects Cn x y ∈ kG) (h3 : Cond.instanceMethod y ∈ kG) (h4 : Cond.initialized y.cls ∈ kG) : GoodIn (c0 :: kG) (va_wsF own ix Cn x y (kws y b n r)) := kG_good fun w hw => by
  unfold va_wsF at hw
  rcases List.mem_append.mp hw with hw | hw
  · rcases List.mem_cons.mp hw with rfl | hw
    · exact h1
    · rcases List.mem_cons.mp hw with rfl | hw
      · exact h2
      · rcases List.mem_cons.mp hw with rfl | hw
        · exact h3
        · rcases List.mem_cons.mp hw with rfl | hw
          · exact h4
          · cases hw
  · rcases List.mem_cons.mp hw with rfl | hw
    · exact h
    · exact hw
