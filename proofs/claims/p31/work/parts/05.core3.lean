/-! ===== locals, branches, returns ===== -/
section KLOC
variable {p : Program} {l : Launch} {e : Env} {R : Room} {s : State} {m : MethodId} {args : Array Value} {below : List Frame} {meth : Method} {c : Code}
variable {E : kE} {XX : State → Prop} {σ α0 : List Nat} {cc : ByteArray} {nL nc0 ns0 : Nat} {res : kRes} {pc pc' : Nat} {own : String} {ws : List Cond} {zs : List (String × String × Nat)}
def oLoadI (i : Nat) : kOp := fun fs => match kget fs.1 i with
  | some (.int x) => some (.inl (0, (fs.1, .int x :: fs.2.1, fs.2.2)))
  | _ => none
theorem ok_iloadn {k : Fin 4} {i : Nat} (C : kCx E XX σ zs p l e R s m args below meth c α0 cc nL nc0 ns0 res own ws) (hd : decode cc pc = .ok (.iload_n k, 1)) (hk : (k : Nat) = i) : kOK E p l e R s m args below meth c α0 nL nc0 ns0 res pc (kTo (pc + 1)) (oLoadI i) := by
  intro fs r h
  unfold oLoadI at h
  split at h
  · rename_i x hx
    cases h
    refine ⟨Nat.le_refl _, Nat.le_refl _, fun _ _ k2 => ?_⟩
    intro α H locs ls lv st hp hR hV hL hl hs h1 h2
    obtain ⟨w, hw, hmem⟩ := kget_spec hx hL
    have hw0 := hw
    cases hw
    exact lv_iload_n C.1 C.2.1 hd hk (hl.2.2 _ hmem) (k2 α H locs ls lv _ hp hR hV hL hl (kvS_mk hw0 hs) h1 h2)
  · cases h
theorem ok_iload {i : Nat} (C : kCx E XX σ zs p l e R s m args below meth c α0 cc nL nc0 ns0 res own ws) (hd : decode cc pc = .ok (.iload i, 2)) : kOK E p l e R s m args below meth c α0 nL nc0 ns0 res pc (kTo (pc + 2)) (oLoadI i) := by
  intro fs r h
  unfold oLoadI at h
  split at h
  · rename_i x hx
    cases h
    refine ⟨Nat.le_refl _, Nat.le_refl _, fun _ _ k2 => ?_⟩
    intro α H locs ls lv st hp hR hV hL hl hs h1 h2
    obtain ⟨w, hw, hmem⟩ := kget_spec hx hL
    have hw0 := hw
    cases hw
    exact lv_iload C.1 C.2.1 hd (hl.2.2 _ hmem) (k2 α H locs ls lv _ hp hR hV hL hl (kvS_mk hw0 hs) h1 h2)
  · cases h
def oLoadL (i : Nat) : kOp := fun fs => match kget fs.1 i with
  | some (.long x) => some (.inl (0, (fs.1, .long x :: fs.2.1, fs.2.2)))
  | _ => none
theorem ok_lloadn {k : Fin 4} {i : Nat} (C : kCx E XX σ zs p l e R s m args below meth c α0 cc nL nc0 ns0 res own ws) (hd : decode cc pc = .ok (.lload_n k, 1)) (hk : (k : Nat) = i) : kOK E p l e R s m args below meth c α0 nL nc0 ns0 res pc (kTo (pc + 1)) (oLoadL i) := by
  intro fs r h
  unfold oLoadL at h
  split at h
  · rename_i x hx
    cases h
    refine ⟨Nat.le_refl _, Nat.le_refl _, fun _ _ k2 => ?_⟩
    intro α H locs ls lv st hp hR hV hL hl hs h1 h2
    obtain ⟨w, hw, hmem⟩ := kget_spec hx hL
    have hw0 := hw
    cases hw
    exact lv_lload_n C.1 C.2.1 hd hk (hl.2.2 _ hmem) (k2 α H locs ls lv _ hp hR hV hL hl (kvS_mk hw0 hs) h1 h2)
  · cases h
theorem ok_lload {i : Nat} (C : kCx E XX σ zs p l e R s m args below meth c α0 cc nL nc0 ns0 res own ws) (hd : decode cc pc = .ok (.lload i, 2)) : kOK E p l e R s m args below meth c α0 nL nc0 ns0 res pc (kTo (pc + 2)) (oLoadL i) := by
  intro fs r h
  unfold oLoadL at h
  split at h
  · rename_i x hx
    cases h
    refine ⟨Nat.le_refl _, Nat.le_refl _, fun _ _ k2 => ?_⟩
    intro α H locs ls lv st hp hR hV hL hl hs h1 h2
    obtain ⟨w, hw, hmem⟩ := kget_spec hx hL
    have hw0 := hw
    cases hw
    exact lv_lload C.1 C.2.1 hd (hl.2.2 _ hmem) (k2 α H locs ls lv _ hp hR hV hL hl (kvS_mk hw0 hs) h1 h2)
  · cases h
def oLoadD (i : Nat) : kOp := fun fs => match kget fs.1 i with
  | some (.double x) => some (.inl (0, (fs.1, .double x :: fs.2.1, fs.2.2)))
  | _ => none
theorem ok_dloadn {k : Fin 4} {i : Nat} (C : kCx E XX σ zs p l e R s m args below meth c α0 cc nL nc0 ns0 res own ws) (hd : decode cc pc = .ok (.dload_n k, 1)) (hk : (k : Nat) = i) : kOK E p l e R s m args below meth c α0 nL nc0 ns0 res pc (kTo (pc + 1)) (oLoadD i) := by
  intro fs r h
  unfold oLoadD at h
  split at h
  · rename_i x hx
    cases h
    refine ⟨Nat.le_refl _, Nat.le_refl _, fun _ _ k2 => ?_⟩
    intro α H locs ls lv st hp hR hV hL hl hs h1 h2
    obtain ⟨w, hw, hmem⟩ := kget_spec hx hL
    have hw0 := hw
    cases hw
    exact lv_dload_n C.1 C.2.1 hd hk (hl.2.2 _ hmem) (k2 α H locs ls lv _ hp hR hV hL hl (kvS_mk hw0 hs) h1 h2)
  · cases h
theorem ok_dload {i : Nat} (C : kCx E XX σ zs p l e R s m args below meth c α0 cc nL nc0 ns0 res own ws) (hd : decode cc pc = .ok (.dload i, 2)) : kOK E p l e R s m args below meth c α0 nL nc0 ns0 res pc (kTo (pc + 2)) (oLoadD i) := by
  intro fs r h
  unfold oLoadD at h
  split at h
  · rename_i x hx
    cases h
    refine ⟨Nat.le_refl _, Nat.le_refl _, fun _ _ k2 => ?_⟩
    intro α H locs ls lv st hp hR hV hL hl hs h1 h2
    obtain ⟨w, hw, hmem⟩ := kget_spec hx hL
    have hw0 := hw
    cases hw
    exact lv_dload C.1 C.2.1 hd (hl.2.2 _ hmem) (k2 α H locs ls lv _ hp hR hV hL hl (kvS_mk hw0 hs) h1 h2)
  · cases h
def oLoadA (i : Nat) : kOp := fun fs => match kget fs.1 i with
  | some (.ref x) => some (.inl (0, (fs.1, .ref x :: fs.2.1, fs.2.2)))
  | _ => none
theorem ok_aloadn {k : Fin 4} {i : Nat} (C : kCx E XX σ zs p l e R s m args below meth c α0 cc nL nc0 ns0 res own ws) (hd : decode cc pc = .ok (.aload_n k, 1)) (hk : (k : Nat) = i) : kOK E p l e R s m args below meth c α0 nL nc0 ns0 res pc (kTo (pc + 1)) (oLoadA i) := by
  intro fs r h
  unfold oLoadA at h
  split at h
  · rename_i x hx
    cases h
    refine ⟨Nat.le_refl _, Nat.le_refl _, fun _ _ k2 => ?_⟩
    intro α H locs ls lv st hp hR hV hL hl hs h1 h2
    obtain ⟨w, hw, hmem⟩ := kget_spec hx hL
    have hw0 := hw
    obtain ⟨a, ha, rfl⟩ := kv_refI hw
    exact lv_aload_n C.1 C.2.1 hd hk (hl.2.2 _ hmem) (k2 α H locs ls lv _ hp hR hV hL hl (kvS_mk hw0 hs) h1 h2)
  · cases h
theorem ok_aload {i : Nat} (C : kCx E XX σ zs p l e R s m args below meth c α0 cc nL nc0 ns0 res own ws) (hd : decode cc pc = .ok (.aload i, 2)) : kOK E p l e R s m args below meth c α0 nL nc0 ns0 res pc (kTo (pc + 2)) (oLoadA i) := by
  intro fs r h
  unfold oLoadA at h
  split at h
  · rename_i x hx
    cases h
    refine ⟨Nat.le_refl _, Nat.le_refl _, fun _ _ k2 => ?_⟩
    intro α H locs ls lv st hp hR hV hL hl hs h1 h2
    obtain ⟨w, hw, hmem⟩ := kget_spec hx hL
    have hw0 := hw
    obtain ⟨a, ha, rfl⟩ := kv_refI hw
    exact lv_aload C.1 C.2.1 hd (hl.2.2 _ hmem) (k2 α H locs ls lv _ hp hR hV hL hl (kvS_mk hw0 hs) h1 h2)
  · cases h
def oLoadN (i : Nat) : kOp := fun fs => match kget fs.1 i with
  | some .null => some (.inl (0, (fs.1, .null :: fs.2.1, fs.2.2)))
  | _ => none
theorem ok_aloadNn {k : Fin 4} {i : Nat} (C : kCx E XX σ zs p l e R s m args below meth c α0 cc nL nc0 ns0 res own ws) (hd : decode cc pc = .ok (.aload_n k, 1)) (hk : (k : Nat) = i) : kOK E p l e R s m args below meth c α0 nL nc0 ns0 res pc (kTo (pc + 1)) (oLoadN i) := by
  intro fs r h
  unfold oLoadN at h
  split at h
  · rename_i hx
    cases h
    refine ⟨Nat.le_refl _, Nat.le_refl _, fun _ _ k2 => ?_⟩
    intro α H locs ls lv st hp hR hV hL hl hs h1 h2
    obtain ⟨w, hw, hmem⟩ := kget_spec hx hL
    have hw0 := hw
    cases hw
    exact lv_aload_nN C.1 C.2.1 hd hk (hl.2.2 _ hmem) (k2 α H locs ls lv _ hp hR hV hL hl (kvS_mk hw0 hs) h1 h2)
  · cases h
theorem ok_aloadN {i : Nat} (C : kCx E XX σ zs p l e R s m args below meth c α0 cc nL nc0 ns0 res own ws) (hd : decode cc pc = .ok (.aload i, 2)) : kOK E p l e R s m args below meth c α0 nL nc0 ns0 res pc (kTo (pc + 2)) (oLoadN i) := by
  intro fs r h
  unfold oLoadN at h
  split at h
  · rename_i hx
    cases h
    refine ⟨Nat.le_refl _, Nat.le_refl _, fun _ _ k2 => ?_⟩
    intro α H locs ls lv st hp hR hV hL hl hs h1 h2
    obtain ⟨w, hw, hmem⟩ := kget_spec hx hL
    have hw0 := hw
    cases hw
    exact lv_aloadN C.1 C.2.1 hd (hl.2.2 _ hmem) (k2 α H locs ls lv _ hp hR hV hL hl (kvS_mk hw0 hs) h1 h2)
  · cases h
def oLoadR (i : Nat) : kOp := fun fs => match kget fs.1 i with
  | some (.ref x) => some (.inl (0, (fs.1, .ref x :: fs.2.1, fs.2.2)))
  | some .null => some (.inl (0, (fs.1, .null :: fs.2.1, fs.2.2)))
  | _ => none
theorem oLoadR_or {i : Nat} {fs : kFS} {r : (Nat × kFS) ⊕ kRes} (h : oLoadR i fs = some r) : oLoadA i fs = some r ∨ oLoadN i fs = some r := by
  unfold oLoadR at h
  split at h
  · rename_i x hx
    exact Or.inl (by unfold oLoadA; rw [hx]; exact h)
  · rename_i hx
    exact Or.inr (by unfold oLoadN; rw [hx]; exact h)
  · cases h
theorem ok_aloadRn {k : Fin 4} {i : Nat} (C : kCx E XX σ zs p l e R s m args below meth c α0 cc nL nc0 ns0 res own ws) (hd : decode cc pc = .ok (.aload_n k, 1)) (hk : (k : Nat) = i) : kOK E p l e R s m args below meth c α0 nL nc0 ns0 res pc (kTo (pc + 1)) (oLoadR i) := by
  intro fs r h
  rcases oLoadR_or h with h1 | h1
  · exact ok_aloadn C hd hk fs r h1
  · exact ok_aloadNn C hd hk fs r h1
theorem ok_aloadR {i : Nat} (C : kCx E XX σ zs p l e R s m args below meth c α0 cc nL nc0 ns0 res own ws) (hd : decode cc pc = .ok (.aload i, 2)) : kOK E p l e R s m args below meth c α0 nL nc0 ns0 res pc (kTo (pc + 2)) (oLoadR i) := by
  intro fs r h
  rcases oLoadR_or h with h1 | h1
  · exact ok_aload C hd fs r h1
  · exact ok_aloadN C hd fs r h1
def oStoreI (i : Nat) : kOp := fun fs => match fs.2.1 with
  | .int x :: S => some (.inl (0, ((i, .int x) :: fs.1.filter (kf1 i), S, fs.2.2)))
  | _ => none
theorem ok_istoren {k : Fin 4} {i : Nat} (C : kCx E XX σ zs p l e R s m args below meth c α0 cc nL nc0 ns0 res own ws) (hd : decode cc pc = .ok (.istore_n k, 1)) (hk : (k : Nat) = i) (hn : i < nL) : kOK E p l e R s m args below meth c α0 nL nc0 ns0 res pc (kTo (pc + 1)) (oStoreI i) := by
  intro fs r h
  obtain ⟨L, S, hsx⟩ := fs
  unfold oStoreI at h
  split at h
  · rename_i hS
    cases h
    simp only at hS
    subst hS
    refine ⟨Nat.le_refl _, Nat.le_refl _, fun _ _ k2 => ?_⟩
    intro α H locs ls lv st hp hR hV hL hl hs h1 h2
    obtain ⟨st, rfl, h3⟩ := kvS_int hs
    exact lv_istore_n C.1 C.2.1 hd hk hl hn rfl fun ls' hl' => k2 α H locs ls' _ _ hp hR hV (kvL_mk (rfl) (kvL_filter _ (kf1_cat i) hL)) hl' h3 h1 h2
  · cases h
theorem ok_istore {i : Nat} (C : kCx E XX σ zs p l e R s m args below meth c α0 cc nL nc0 ns0 res own ws) (hd : decode cc pc = .ok (.istore i, 2)) (hn : i < nL) : kOK E p l e R s m args below meth c α0 nL nc0 ns0 res pc (kTo (pc + 2)) (oStoreI i) := by
  intro fs r h
  obtain ⟨L, S, hsx⟩ := fs
  unfold oStoreI at h
  split at h
  · rename_i hS
    cases h
    simp only at hS
    subst hS
    refine ⟨Nat.le_refl _, Nat.le_refl _, fun _ _ k2 => ?_⟩
    intro α H locs ls lv st hp hR hV hL hl hs h1 h2
    obtain ⟨st, rfl, h3⟩ := kvS_int hs
    exact lv_istore C.1 C.2.1 hd hl hn rfl fun ls' hl' => k2 α H locs ls' _ _ hp hR hV (kvL_mk (rfl) (kvL_filter _ (kf1_cat i) hL)) hl' h3 h1 h2
  · cases h
def oStoreL (i : Nat) : kOp := fun fs => match fs.2.1 with
  | .long x :: S => some (.inl (0, ((i, .long x) :: fs.1.filter (kf2 i), S, fs.2.2)))
  | _ => none
theorem ok_lstoren {k : Fin 4} {i : Nat} (C : kCx E XX σ zs p l e R s m args below meth c α0 cc nL nc0 ns0 res own ws) (hd : decode cc pc = .ok (.lstore_n k, 1)) (hk : (k : Nat) = i) (hn : i + 1 < nL) : kOK E p l e R s m args below meth c α0 nL nc0 ns0 res pc (kTo (pc + 1)) (oStoreL i) := by
  intro fs r h
  obtain ⟨L, S, hsx⟩ := fs
  unfold oStoreL at h
  split at h
  · rename_i hS
    cases h
    simp only at hS
    subst hS
    refine ⟨Nat.le_refl _, Nat.le_refl _, fun _ _ k2 => ?_⟩
    intro α H locs ls lv st hp hR hV hL hl hs h1 h2
    obtain ⟨st, rfl, h3⟩ := kvS_long hs
    exact lv_lstore_n C.1 C.2.1 hd hk hl hn rfl fun ls' hl' => k2 α H locs ls' _ _ hp hR hV (kvL_mk (rfl) (kvL_filter _ (kf2_cat i) hL)) hl' h3 h1 h2
  · cases h
theorem ok_lstore {i : Nat} (C : kCx E XX σ zs p l e R s m args below meth c α0 cc nL nc0 ns0 res own ws) (hd : decode cc pc = .ok (.lstore i, 2)) (hn : i + 1 < nL) : kOK E p l e R s m args below meth c α0 nL nc0 ns0 res pc (kTo (pc + 2)) (oStoreL i) := by
  intro fs r h
  obtain ⟨L, S, hsx⟩ := fs
  unfold oStoreL at h
  split at h
  · rename_i hS
    cases h
    simp only at hS
    subst hS
    refine ⟨Nat.le_refl _, Nat.le_refl _, fun _ _ k2 => ?_⟩
    intro α H locs ls lv st hp hR hV hL hl hs h1 h2
    obtain ⟨st, rfl, h3⟩ := kvS_long hs
    exact lv_lstore C.1 C.2.1 hd hl hn rfl fun ls' hl' => k2 α H locs ls' _ _ hp hR hV (kvL_mk (rfl) (kvL_filter _ (kf2_cat i) hL)) hl' h3 h1 h2
  · cases h
def oStoreD (i : Nat) : kOp := fun fs => match fs.2.1 with
  | .double x :: S => some (.inl (0, ((i, .double x) :: fs.1.filter (kf2 i), S, fs.2.2)))
  | _ => none
theorem ok_dstoren {k : Fin 4} {i : Nat} (C : kCx E XX σ zs p l e R s m args below meth c α0 cc nL nc0 ns0 res own ws) (hd : decode cc pc = .ok (.dstore_n k, 1)) (hk : (k : Nat) = i) (hn : i + 1 < nL) : kOK E p l e R s m args below meth c α0 nL nc0 ns0 res pc (kTo (pc + 1)) (oStoreD i) := by
  intro fs r h
  obtain ⟨L, S, hsx⟩ := fs
  unfold oStoreD at h
  split at h
  · rename_i hS
    cases h
    simp only at hS
    subst hS
    refine ⟨Nat.le_refl _, Nat.le_refl _, fun _ _ k2 => ?_⟩
    intro α H locs ls lv st hp hR hV hL hl hs h1 h2
    obtain ⟨st, rfl, h3⟩ := kvS_double hs
    exact lv_dstore_n C.1 C.2.1 hd hk hl hn rfl fun ls' hl' => k2 α H locs ls' _ _ hp hR hV (kvL_mk (rfl) (kvL_filter _ (kf2_cat i) hL)) hl' h3 h1 h2
  · cases h
theorem ok_dstore {i : Nat} (C : kCx E XX σ zs p l e R s m args below meth c α0 cc nL nc0 ns0 res own ws) (hd : decode cc pc = .ok (.dstore i, 2)) (hn : i + 1 < nL) : kOK E p l e R s m args below meth c α0 nL nc0 ns0 res pc (kTo (pc + 2)) (oStoreD i) := by
  intro fs r h
  obtain ⟨L, S, hsx⟩ := fs
  unfold oStoreD at h
  split at h
  · rename_i hS
    cases h
    simp only at hS
    subst hS
    refine ⟨Nat.le_refl _, Nat.le_refl _, fun _ _ k2 => ?_⟩
    intro α H locs ls lv st hp hR hV hL hl hs h1 h2
    obtain ⟨st, rfl, h3⟩ := kvS_double hs
    exact lv_dstore C.1 C.2.1 hd hl hn rfl fun ls' hl' => k2 α H locs ls' _ _ hp hR hV (kvL_mk (rfl) (kvL_filter _ (kf2_cat i) hL)) hl' h3 h1 h2
  · cases h
def oStoreA (i : Nat) : kOp := fun fs => match fs.2.1 with
  | .ref x :: S => some (.inl (0, ((i, .ref x) :: fs.1.filter (kf1 i), S, fs.2.2)))
  | _ => none
theorem ok_astoren {k : Fin 4} {i : Nat} (C : kCx E XX σ zs p l e R s m args below meth c α0 cc nL nc0 ns0 res own ws) (hd : decode cc pc = .ok (.astore_n k, 1)) (hk : (k : Nat) = i) (hn : i < nL) : kOK E p l e R s m args below meth c α0 nL nc0 ns0 res pc (kTo (pc + 1)) (oStoreA i) := by
  intro fs r h
  obtain ⟨L, S, hsx⟩ := fs
  unfold oStoreA at h
  split at h
  · rename_i hS
    cases h
    simp only at hS
    subst hS
    refine ⟨Nat.le_refl _, Nat.le_refl _, fun _ _ k2 => ?_⟩
    intro α H locs ls lv st hp hR hV hL hl hs h1 h2
    obtain ⟨a, st, rfl, ha, h3⟩ := kvS_ref hs
    exact lv_astore_n C.1 C.2.1 hd hk hl hn rfl fun ls' hl' => k2 α H locs ls' _ _ hp hR hV (kvL_mk (kv_ref ha) (kvL_filter _ (kf1_cat i) hL)) hl' h3 h1 h2
  · cases h
theorem ok_astore {i : Nat} (C : kCx E XX σ zs p l e R s m args below meth c α0 cc nL nc0 ns0 res own ws) (hd : decode cc pc = .ok (.astore i, 2)) (hn : i < nL) : kOK E p l e R s m args below meth c α0 nL nc0 ns0 res pc (kTo (pc + 2)) (oStoreA i) := by
  intro fs r h
  obtain ⟨L, S, hsx⟩ := fs
  unfold oStoreA at h
  split at h
  · rename_i hS
    cases h
    simp only at hS
    subst hS
    refine ⟨Nat.le_refl _, Nat.le_refl _, fun _ _ k2 => ?_⟩
    intro α H locs ls lv st hp hR hV hL hl hs h1 h2
    obtain ⟨a, st, rfl, ha, h3⟩ := kvS_ref hs
    exact lv_astore C.1 C.2.1 hd hl hn rfl fun ls' hl' => k2 α H locs ls' _ _ hp hR hV (kvL_mk (kv_ref ha) (kvL_filter _ (kf1_cat i) hL)) hl' h3 h1 h2
  · cases h
def oStoreN (i : Nat) : kOp := fun fs => match fs.2.1 with
  | .null :: S => some (.inl (0, ((i, .null) :: fs.1.filter (kf1 i), S, fs.2.2)))
  | _ => none
theorem ok_astoreNn {k : Fin 4} {i : Nat} (C : kCx E XX σ zs p l e R s m args below meth c α0 cc nL nc0 ns0 res own ws) (hd : decode cc pc = .ok (.astore_n k, 1)) (hk : (k : Nat) = i) (hn : i < nL) : kOK E p l e R s m args below meth c α0 nL nc0 ns0 res pc (kTo (pc + 1)) (oStoreN i) := by
  intro fs r h
  obtain ⟨L, S, hsx⟩ := fs
  unfold oStoreN at h
  split at h
  · rename_i hS
    cases h
    simp only at hS
    subst hS
    refine ⟨Nat.le_refl _, Nat.le_refl _, fun _ _ k2 => ?_⟩
    intro α H locs ls lv st hp hR hV hL hl hs h1 h2
    obtain ⟨st, rfl, h3⟩ := kvS_null hs
    exact lv_astore_nN C.1 C.2.1 hd hk hl hn rfl fun ls' hl' => k2 α H locs ls' _ _ hp hR hV (kvL_mk (rfl) (kvL_filter _ (kf1_cat i) hL)) hl' h3 h1 h2
  · cases h
theorem ok_astoreN {i : Nat} (C : kCx E XX σ zs p l e R s m args below meth c α0 cc nL nc0 ns0 res own ws) (hd : decode cc pc = .ok (.astore i, 2)) (hn : i < nL) : kOK E p l e R s m args below meth c α0 nL nc0 ns0 res pc (kTo (pc + 2)) (oStoreN i) := by
  intro fs r h
  obtain ⟨L, S, hsx⟩ := fs
  unfold oStoreN at h
  split at h
  · rename_i hS
    cases h
    simp only at hS
    subst hS
    refine ⟨Nat.le_refl _, Nat.le_refl _, fun _ _ k2 => ?_⟩
    intro α H locs ls lv st hp hR hV hL hl hs h1 h2
    obtain ⟨st, rfl, h3⟩ := kvS_null hs
    exact lv_astoreN C.1 C.2.1 hd hl hn rfl fun ls' hl' => k2 α H locs ls' _ _ hp hR hV (kvL_mk (rfl) (kvL_filter _ (kf1_cat i) hL)) hl' h3 h1 h2
  · cases h
def oStoreR (i : Nat) : kOp := fun fs => match fs.2.1 with
  | .ref x :: S => some (.inl (0, ((i, .ref x) :: fs.1.filter (kf1 i), S, fs.2.2)))
  | .null :: S => some (.inl (0, ((i, .null) :: fs.1.filter (kf1 i), S, fs.2.2)))
  | _ => none
theorem oStoreR_or {i : Nat} {fs : kFS} {r : (Nat × kFS) ⊕ kRes} (h : oStoreR i fs = some r) : oStoreA i fs = some r ∨ oStoreN i fs = some r := by
  unfold oStoreR at h
  split at h
  · rename_i hx
    exact Or.inl (by unfold oStoreA; rw [hx]; exact h)
  · rename_i hx
    exact Or.inr (by unfold oStoreN; rw [hx]; exact h)
  · cases h
theorem ok_astoreRn {k : Fin 4} {i : Nat} (C : kCx E XX σ zs p l e R s m args below meth c α0 cc nL nc0 ns0 res own ws) (hd : decode cc pc = .ok (.astore_n k, 1)) (hk : (k : Nat) = i) (hn : i < nL) : kOK E p l e R s m args below meth c α0 nL nc0 ns0 res pc (kTo (pc + 1)) (oStoreR i) := by
  intro fs r h
  rcases oStoreR_or h with h1 | h1
  · exact ok_astoren C hd hk hn fs r h1
  · exact ok_astoreNn C hd hk hn fs r h1
theorem ok_astoreR {i : Nat} (C : kCx E XX σ zs p l e R s m args below meth c α0 cc nL nc0 ns0 res own ws) (hd : decode cc pc = .ok (.astore i, 2)) (hn : i < nL) : kOK E p l e R s m args below meth c α0 nL nc0 ns0 res pc (kTo (pc + 2)) (oStoreR i) := by
  intro fs r h
  rcases oStoreR_or h with h1 | h1
  · exact ok_astore C hd hn fs r h1
  · exact ok_astoreN C hd hn fs r h1
def oIinc (i : Nat) (d : Int32) : kOp := fun fs => match kget fs.1 i with
  | some (.int x) => some (.inl (0, ((i, .int (x + d)) :: fs.1.filter (kf1 i), fs.2.1, fs.2.2)))
  | _ => none
theorem ok_iinc {i : Nat} {n : Int} {d : Int32} (C : kCx E XX σ zs p l e R s m args below meth c α0 cc nL nc0 ns0 res own ws) (hd : decode cc pc = .ok (.iinc i n, 3)) (hdn : Int32.ofInt n = d) (hn : i < nL) : kOK E p l e R s m args below meth c α0 nL nc0 ns0 res pc (kTo (pc + 3)) (oIinc i d) := by
  intro fs r h
  unfold oIinc at h
  split at h
  · rename_i x hx
    cases h
    refine ⟨Nat.le_refl _, Nat.le_refl _, fun _ _ k2 => ?_⟩
    intro α H locs ls lv st hp hR hV hL hl hs h1 h2
    obtain ⟨w, hw, hmem⟩ := kget_spec hx hL
    cases hw
    obtain ⟨k, hk⟩ := List.getElem?_of_mem hmem
    exact lv_iinc C.1 C.2.1 hd hl hk (by rw [hdn]) hn rfl fun ls' hl' => k2 α H locs ls' _ _ hp hR hV (kvL_mk rfl (kvL_filter _ (kf1_cat i) hL)) hl' hs h1 h2
  · cases h
/-- the end of a block: a test of the top int -/
def tIf (f : Int32 → Bool) (b1 b2 : Nat) : kOp := fun fs => match fs.2.1 with
  | .int x :: S => some (.inl (bif f x then b1 else b2, (fs.1, S, fs.2.2)))
  | _ => none
def tCmp (f : Int32 → Int32 → Bool) (b1 b2 : Nat) : kOp := fun fs => match fs.2.1 with
  | .int y :: .int x :: S => some (.inl (bif f x y then b1 else b2, (fs.1, S, fs.2.2)))
  | _ => none
theorem ok_if_eq {off : Int} {tgt b1 b2 : Nat} {pcs : Nat → Nat} (C : kCx E XX σ zs p l e R s m args below meth c α0 cc nL nc0 ns0 res own ws) (hd : decode cc pc = .ok (.ifCond .eq off, 3)) (ht : (pc : Int) + off = (tgt : Int)) (hb1 : pcs b1 = tgt) (hb2 : pcs b2 = pc + 3) : kOK E p l e R s m args below meth c α0 nL nc0 ns0 res pc pcs (tIf (fun x => decide (x = 0)) b1 b2) := by
  intro fs r h
  obtain ⟨L, S, hsx⟩ := fs
  unfold tIf at h
  split at h
  · rename_i hS
    cases h
    simp only at hS
    subst hS
    refine ⟨Nat.le_refl _, Nat.le_refl _, fun _ _ k2 => ?_⟩
    intro α H locs ls lv st hp hR hV hL hl hs h1 h2
    obtain ⟨st, rfl, hg⟩ := kvS_int hs
    refine lv_if_eq C.1 C.2.1 hd ht (fun hc => ?_) (fun hc => ?_)
    · have k3 := k2 α H locs ls lv st hp hR hV hL hl hg h1 h2
      simp only [hc, decide_true, decide_false, cond_true, cond_false, Bool.not_true, Bool.not_false, not_true, not_false_eq_true, hb1] at k3
      exact k3
    · have k3 := k2 α H locs ls lv st hp hR hV hL hl hg h1 h2
      simp only [hc, decide_true, decide_false, cond_true, cond_false, Bool.not_true, Bool.not_false, not_true, not_false_eq_true, hb2] at k3
      exact k3
  · cases h
theorem ok_icmp_eq {off : Int} {tgt b1 b2 : Nat} {pcs : Nat → Nat} (C : kCx E XX σ zs p l e R s m args below meth c α0 cc nL nc0 ns0 res own ws) (hd : decode cc pc = .ok (.if_icmp .eq off, 3)) (ht : (pc : Int) + off = (tgt : Int)) (hb1 : pcs b1 = tgt) (hb2 : pcs b2 = pc + 3) : kOK E p l e R s m args below meth c α0 nL nc0 ns0 res pc pcs (tCmp (fun x y => decide (x = y)) b1 b2) := by
  intro fs r h
  obtain ⟨L, S, hsx⟩ := fs
  unfold tCmp at h
  split at h
  · rename_i hS
    cases h
    simp only at hS
    subst hS
    refine ⟨Nat.le_refl _, Nat.le_refl _, fun _ _ k2 => ?_⟩
    intro α H locs ls lv st hp hR hV hL hl hs h1 h2
    obtain ⟨st1, rfl, hg1⟩ := kvS_int hs
    obtain ⟨st, rfl, hg⟩ := kvS_int hg1
    refine lv_icmp_eq C.1 C.2.1 hd ht (fun hc => ?_) (fun hc => ?_)
    · have k3 := k2 α H locs ls lv st hp hR hV hL hl hg h1 h2
      simp only [hc, decide_true, decide_false, cond_true, cond_false, Bool.not_true, Bool.not_false, not_true, not_false_eq_true, hb1] at k3
      exact k3
    · have k3 := k2 α H locs ls lv st hp hR hV hL hl hg h1 h2
      simp only [hc, decide_true, decide_false, cond_true, cond_false, Bool.not_true, Bool.not_false, not_true, not_false_eq_true, hb2] at k3
      exact k3
  · cases h
theorem ok_if_ne {off : Int} {tgt b1 b2 : Nat} {pcs : Nat → Nat} (C : kCx E XX σ zs p l e R s m args below meth c α0 cc nL nc0 ns0 res own ws) (hd : decode cc pc = .ok (.ifCond .ne off, 3)) (ht : (pc : Int) + off = (tgt : Int)) (hb1 : pcs b1 = tgt) (hb2 : pcs b2 = pc + 3) : kOK E p l e R s m args below meth c α0 nL nc0 ns0 res pc pcs (tIf (fun x => !decide (x = 0)) b1 b2) := by
  intro fs r h
  obtain ⟨L, S, hsx⟩ := fs
  unfold tIf at h
  split at h
  · rename_i hS
    cases h
    simp only at hS
    subst hS
    refine ⟨Nat.le_refl _, Nat.le_refl _, fun _ _ k2 => ?_⟩
    intro α H locs ls lv st hp hR hV hL hl hs h1 h2
    obtain ⟨st, rfl, hg⟩ := kvS_int hs
    refine lv_if_ne C.1 C.2.1 hd ht (fun hc => ?_) (fun hc => ?_)
    · have k3 := k2 α H locs ls lv st hp hR hV hL hl hg h1 h2
      simp only [hc, decide_true, decide_false, cond_true, cond_false, Bool.not_true, Bool.not_false, not_true, not_false_eq_true, hb1] at k3
      exact k3
    · have k3 := k2 α H locs ls lv st hp hR hV hL hl hg h1 h2
      simp only [hc, decide_true, decide_false, cond_true, cond_false, Bool.not_true, Bool.not_false, not_true, not_false_eq_true, hb2] at k3
      exact k3
  · cases h
theorem ok_icmp_ne {off : Int} {tgt b1 b2 : Nat} {pcs : Nat → Nat} (C : kCx E XX σ zs p l e R s m args below meth c α0 cc nL nc0 ns0 res own ws) (hd : decode cc pc = .ok (.if_icmp .ne off, 3)) (ht : (pc : Int) + off = (tgt : Int)) (hb1 : pcs b1 = tgt) (hb2 : pcs b2 = pc + 3) : kOK E p l e R s m args below meth c α0 nL nc0 ns0 res pc pcs (tCmp (fun x y => !decide (x = y)) b1 b2) := by
  intro fs r h
  obtain ⟨L, S, hsx⟩ := fs
  unfold tCmp at h
  split at h
  · rename_i hS
    cases h
    simp only at hS
    subst hS
    refine ⟨Nat.le_refl _, Nat.le_refl _, fun _ _ k2 => ?_⟩
    intro α H locs ls lv st hp hR hV hL hl hs h1 h2
    obtain ⟨st1, rfl, hg1⟩ := kvS_int hs
    obtain ⟨st, rfl, hg⟩ := kvS_int hg1
    refine lv_icmp_ne C.1 C.2.1 hd ht (fun hc => ?_) (fun hc => ?_)
    · have k3 := k2 α H locs ls lv st hp hR hV hL hl hg h1 h2
      simp only [hc, decide_true, decide_false, cond_true, cond_false, Bool.not_true, Bool.not_false, not_true, not_false_eq_true, hb1] at k3
      exact k3
    · have k3 := k2 α H locs ls lv st hp hR hV hL hl hg h1 h2
      simp only [hc, decide_true, decide_false, cond_true, cond_false, Bool.not_true, Bool.not_false, not_true, not_false_eq_true, hb2] at k3
      exact k3
  · cases h
theorem ok_if_lt {off : Int} {tgt b1 b2 : Nat} {pcs : Nat → Nat} (C : kCx E XX σ zs p l e R s m args below meth c α0 cc nL nc0 ns0 res own ws) (hd : decode cc pc = .ok (.ifCond .lt off, 3)) (ht : (pc : Int) + off = (tgt : Int)) (hb1 : pcs b1 = tgt) (hb2 : pcs b2 = pc + 3) : kOK E p l e R s m args below meth c α0 nL nc0 ns0 res pc pcs (tIf (fun x => decide (x < 0)) b1 b2) := by
  intro fs r h
  obtain ⟨L, S, hsx⟩ := fs
  unfold tIf at h
  split at h
  · rename_i hS
    cases h
    simp only at hS
    subst hS
    refine ⟨Nat.le_refl _, Nat.le_refl _, fun _ _ k2 => ?_⟩
    intro α H locs ls lv st hp hR hV hL hl hs h1 h2
    obtain ⟨st, rfl, hg⟩ := kvS_int hs
    refine lv_if_lt C.1 C.2.1 hd ht (fun hc => ?_) (fun hc => ?_)
    · have k3 := k2 α H locs ls lv st hp hR hV hL hl hg h1 h2
      simp only [hc, decide_true, decide_false, cond_true, cond_false, Bool.not_true, Bool.not_false, not_true, not_false_eq_true, hb1] at k3
      exact k3
    · have k3 := k2 α H locs ls lv st hp hR hV hL hl hg h1 h2
      simp only [hc, decide_true, decide_false, cond_true, cond_false, Bool.not_true, Bool.not_false, not_true, not_false_eq_true, hb2] at k3
      exact k3
  · cases h
theorem ok_icmp_lt {off : Int} {tgt b1 b2 : Nat} {pcs : Nat → Nat} (C : kCx E XX σ zs p l e R s m args below meth c α0 cc nL nc0 ns0 res own ws) (hd : decode cc pc = .ok (.if_icmp .lt off, 3)) (ht : (pc : Int) + off = (tgt : Int)) (hb1 : pcs b1 = tgt) (hb2 : pcs b2 = pc + 3) : kOK E p l e R s m args below meth c α0 nL nc0 ns0 res pc pcs (tCmp (fun x y => decide (x < y)) b1 b2) := by
  intro fs r h
  obtain ⟨L, S, hsx⟩ := fs
  unfold tCmp at h
  split at h
  · rename_i hS
    cases h
    simp only at hS
    subst hS
    refine ⟨Nat.le_refl _, Nat.le_refl _, fun _ _ k2 => ?_⟩
    intro α H locs ls lv st hp hR hV hL hl hs h1 h2
    obtain ⟨st1, rfl, hg1⟩ := kvS_int hs
    obtain ⟨st, rfl, hg⟩ := kvS_int hg1
    refine lv_icmp_lt C.1 C.2.1 hd ht (fun hc => ?_) (fun hc => ?_)
    · have k3 := k2 α H locs ls lv st hp hR hV hL hl hg h1 h2
      simp only [hc, decide_true, decide_false, cond_true, cond_false, Bool.not_true, Bool.not_false, not_true, not_false_eq_true, hb1] at k3
      exact k3
    · have k3 := k2 α H locs ls lv st hp hR hV hL hl hg h1 h2
      simp only [hc, decide_true, decide_false, cond_true, cond_false, Bool.not_true, Bool.not_false, not_true, not_false_eq_true, hb2] at k3
      exact k3
  · cases h
theorem ok_if_ge {off : Int} {tgt b1 b2 : Nat} {pcs : Nat → Nat} (C : kCx E XX σ zs p l e R s m args below meth c α0 cc nL nc0 ns0 res own ws) (hd : decode cc pc = .ok (.ifCond .ge off, 3)) (ht : (pc : Int) + off = (tgt : Int)) (hb1 : pcs b1 = tgt) (hb2 : pcs b2 = pc + 3) : kOK E p l e R s m args below meth c α0 nL nc0 ns0 res pc pcs (tIf (fun x => decide (0 ≤ x)) b1 b2) := by
  intro fs r h
  obtain ⟨L, S, hsx⟩ := fs
  unfold tIf at h
  split at h
  · rename_i hS
    cases h
    simp only at hS
    subst hS
    refine ⟨Nat.le_refl _, Nat.le_refl _, fun _ _ k2 => ?_⟩
    intro α H locs ls lv st hp hR hV hL hl hs h1 h2
    obtain ⟨st, rfl, hg⟩ := kvS_int hs
    refine lv_if_ge C.1 C.2.1 hd ht (fun hc => ?_) (fun hc => ?_)
    · have k3 := k2 α H locs ls lv st hp hR hV hL hl hg h1 h2
      simp only [hc, decide_true, decide_false, cond_true, cond_false, Bool.not_true, Bool.not_false, not_true, not_false_eq_true, hb1] at k3
      exact k3
    · have k3 := k2 α H locs ls lv st hp hR hV hL hl hg h1 h2
      simp only [hc, decide_true, decide_false, cond_true, cond_false, Bool.not_true, Bool.not_false, not_true, not_false_eq_true, hb2] at k3
      exact k3
  · cases h
theorem ok_icmp_ge {off : Int} {tgt b1 b2 : Nat} {pcs : Nat → Nat} (C : kCx E XX σ zs p l e R s m args below meth c α0 cc nL nc0 ns0 res own ws) (hd : decode cc pc = .ok (.if_icmp .ge off, 3)) (ht : (pc : Int) + off = (tgt : Int)) (hb1 : pcs b1 = tgt) (hb2 : pcs b2 = pc + 3) : kOK E p l e R s m args below meth c α0 nL nc0 ns0 res pc pcs (tCmp (fun x y => decide (y ≤ x)) b1 b2) := by
  intro fs r h
  obtain ⟨L, S, hsx⟩ := fs
  unfold tCmp at h
  split at h
  · rename_i hS
    cases h
    simp only at hS
    subst hS
    refine ⟨Nat.le_refl _, Nat.le_refl _, fun _ _ k2 => ?_⟩
    intro α H locs ls lv st hp hR hV hL hl hs h1 h2
    obtain ⟨st1, rfl, hg1⟩ := kvS_int hs
    obtain ⟨st, rfl, hg⟩ := kvS_int hg1
    refine lv_icmp_ge C.1 C.2.1 hd ht (fun hc => ?_) (fun hc => ?_)
    · have k3 := k2 α H locs ls lv st hp hR hV hL hl hg h1 h2
      simp only [hc, decide_true, decide_false, cond_true, cond_false, Bool.not_true, Bool.not_false, not_true, not_false_eq_true, hb1] at k3
      exact k3
    · have k3 := k2 α H locs ls lv st hp hR hV hL hl hg h1 h2
      simp only [hc, decide_true, decide_false, cond_true, cond_false, Bool.not_true, Bool.not_false, not_true, not_false_eq_true, hb2] at k3
      exact k3
  · cases h
theorem ok_if_gt {off : Int} {tgt b1 b2 : Nat} {pcs : Nat → Nat} (C : kCx E XX σ zs p l e R s m args below meth c α0 cc nL nc0 ns0 res own ws) (hd : decode cc pc = .ok (.ifCond .gt off, 3)) (ht : (pc : Int) + off = (tgt : Int)) (hb1 : pcs b1 = tgt) (hb2 : pcs b2 = pc + 3) : kOK E p l e R s m args below meth c α0 nL nc0 ns0 res pc pcs (tIf (fun x => decide (0 < x)) b1 b2) := by
  intro fs r h
  obtain ⟨L, S, hsx⟩ := fs
  unfold tIf at h
  split at h
  · rename_i hS
    cases h
    simp only at hS
    subst hS
    refine ⟨Nat.le_refl _, Nat.le_refl _, fun _ _ k2 => ?_⟩
    intro α H locs ls lv st hp hR hV hL hl hs h1 h2
    obtain ⟨st, rfl, hg⟩ := kvS_int hs
    refine lv_if_gt C.1 C.2.1 hd ht (fun hc => ?_) (fun hc => ?_)
    · have k3 := k2 α H locs ls lv st hp hR hV hL hl hg h1 h2
      simp only [hc, decide_true, decide_false, cond_true, cond_false, Bool.not_true, Bool.not_false, not_true, not_false_eq_true, hb1] at k3
      exact k3
    · have k3 := k2 α H locs ls lv st hp hR hV hL hl hg h1 h2
      simp only [hc, decide_true, decide_false, cond_true, cond_false, Bool.not_true, Bool.not_false, not_true, not_false_eq_true, hb2] at k3
      exact k3
  · cases h
theorem ok_icmp_gt {off : Int} {tgt b1 b2 : Nat} {pcs : Nat → Nat} (C : kCx E XX σ zs p l e R s m args below meth c α0 cc nL nc0 ns0 res own ws) (hd : decode cc pc = .ok (.if_icmp .gt off, 3)) (ht : (pc : Int) + off = (tgt : Int)) (hb1 : pcs b1 = tgt) (hb2 : pcs b2 = pc + 3) : kOK E p l e R s m args below meth c α0 nL nc0 ns0 res pc pcs (tCmp (fun x y => decide (y < x)) b1 b2) := by
  intro fs r h
  obtain ⟨L, S, hsx⟩ := fs
  unfold tCmp at h
  split at h
  · rename_i hS
    cases h
    simp only at hS
    subst hS
    refine ⟨Nat.le_refl _, Nat.le_refl _, fun _ _ k2 => ?_⟩
    intro α H locs ls lv st hp hR hV hL hl hs h1 h2
    obtain ⟨st1, rfl, hg1⟩ := kvS_int hs
    obtain ⟨st, rfl, hg⟩ := kvS_int hg1
    refine lv_icmp_gt C.1 C.2.1 hd ht (fun hc => ?_) (fun hc => ?_)
    · have k3 := k2 α H locs ls lv st hp hR hV hL hl hg h1 h2
      simp only [hc, decide_true, decide_false, cond_true, cond_false, Bool.not_true, Bool.not_false, not_true, not_false_eq_true, hb1] at k3
      exact k3
    · have k3 := k2 α H locs ls lv st hp hR hV hL hl hg h1 h2
      simp only [hc, decide_true, decide_false, cond_true, cond_false, Bool.not_true, Bool.not_false, not_true, not_false_eq_true, hb2] at k3
      exact k3
  · cases h
theorem ok_if_le {off : Int} {tgt b1 b2 : Nat} {pcs : Nat → Nat} (C : kCx E XX σ zs p l e R s m args below meth c α0 cc nL nc0 ns0 res own ws) (hd : decode cc pc = .ok (.ifCond .le off, 3)) (ht : (pc : Int) + off = (tgt : Int)) (hb1 : pcs b1 = tgt) (hb2 : pcs b2 = pc + 3) : kOK E p l e R s m args below meth c α0 nL nc0 ns0 res pc pcs (tIf (fun x => decide (x ≤ 0)) b1 b2) := by
  intro fs r h
  obtain ⟨L, S, hsx⟩ := fs
  unfold tIf at h
  split at h
  · rename_i hS
    cases h
    simp only at hS
    subst hS
    refine ⟨Nat.le_refl _, Nat.le_refl _, fun _ _ k2 => ?_⟩
    intro α H locs ls lv st hp hR hV hL hl hs h1 h2
    obtain ⟨st, rfl, hg⟩ := kvS_int hs
    refine lv_if_le C.1 C.2.1 hd ht (fun hc => ?_) (fun hc => ?_)
    · have k3 := k2 α H locs ls lv st hp hR hV hL hl hg h1 h2
      simp only [hc, decide_true, decide_false, cond_true, cond_false, Bool.not_true, Bool.not_false, not_true, not_false_eq_true, hb1] at k3
      exact k3
    · have k3 := k2 α H locs ls lv st hp hR hV hL hl hg h1 h2
      simp only [hc, decide_true, decide_false, cond_true, cond_false, Bool.not_true, Bool.not_false, not_true, not_false_eq_true, hb2] at k3
      exact k3
  · cases h
theorem ok_icmp_le {off : Int} {tgt b1 b2 : Nat} {pcs : Nat → Nat} (C : kCx E XX σ zs p l e R s m args below meth c α0 cc nL nc0 ns0 res own ws) (hd : decode cc pc = .ok (.if_icmp .le off, 3)) (ht : (pc : Int) + off = (tgt : Int)) (hb1 : pcs b1 = tgt) (hb2 : pcs b2 = pc + 3) : kOK E p l e R s m args below meth c α0 nL nc0 ns0 res pc pcs (tCmp (fun x y => decide (x ≤ y)) b1 b2) := by
  intro fs r h
  obtain ⟨L, S, hsx⟩ := fs
  unfold tCmp at h
  split at h
  · rename_i hS
    cases h
    simp only at hS
    subst hS
    refine ⟨Nat.le_refl _, Nat.le_refl _, fun _ _ k2 => ?_⟩
    intro α H locs ls lv st hp hR hV hL hl hs h1 h2
    obtain ⟨st1, rfl, hg1⟩ := kvS_int hs
    obtain ⟨st, rfl, hg⟩ := kvS_int hg1
    refine lv_icmp_le C.1 C.2.1 hd ht (fun hc => ?_) (fun hc => ?_)
    · have k3 := k2 α H locs ls lv st hp hR hV hL hl hg h1 h2
      simp only [hc, decide_true, decide_false, cond_true, cond_false, Bool.not_true, Bool.not_false, not_true, not_false_eq_true, hb1] at k3
      exact k3
    · have k3 := k2 α H locs ls lv st hp hR hV hL hl hg h1 h2
      simp only [hc, decide_true, decide_false, cond_true, cond_false, Bool.not_true, Bool.not_false, not_true, not_false_eq_true, hb2] at k3
      exact k3
  · cases h
def tGo (b : Nat) : kOp := fun fs => some (.inl (b, fs))
theorem ok_goto {off : Int} {tgt b : Nat} {pcs : Nat → Nat} (C : kCx E XX σ zs p l e R s m args below meth c α0 cc nL nc0 ns0 res own ws) (hd : decode cc pc = .ok (.goto off, 3)) (ht : (pc : Int) + off = (tgt : Int)) (hb : pcs b = tgt) : kOK E p l e R s m args below meth c α0 nL nc0 ns0 res pc pcs (tGo b) := by
  intro fs r h
  cases h
  refine ⟨Nat.le_refl _, Nat.le_refl _, fun _ _ k2 => ?_⟩
  intro α H locs ls lv st hp hR hV hL hl hs h1 h2
  have k3 := k2 α H locs ls lv st hp hR hV hL hl hs h1 h2
  simp only [hb] at k3
  exact lv_goto C.1 C.2.1 hd ht k3
/-- the block ends where the next begins -/
theorem ok_fall {b : Nat} {pcs : Nat → Nat} (hb : pcs b = pc) : kOK E p l e R s m args below meth c α0 nL nc0 ns0 res pc pcs (tGo b) := by
  intro fs r h
  cases h
  refine ⟨Nat.le_refl _, Nat.le_refl _, fun _ _ k2 => ?_⟩
  intro α H locs ls lv st hp hR hV hL hl hs h1 h2
  have k3 := k2 α H locs ls lv st hp hR hV hL hl hs h1 h2
  simp only [hb] at k3
  exact k3
def tNull (b1 b2 : Nat) : kOp := fun fs => match fs.2.1 with
  | .null :: S => some (.inl (b1, (fs.1, S, fs.2.2)))
  | .ref _ :: S => some (.inl (b2, (fs.1, S, fs.2.2)))
  | _ => none
theorem ok_ifnull {off : Int} {tgt b1 b2 : Nat} {pcs : Nat → Nat} (C : kCx E XX σ zs p l e R s m args below meth c α0 cc nL nc0 ns0 res own ws) (hd : decode cc pc = .ok (.ifnull off, 3)) (ht : (pc : Int) + off = (tgt : Int)) (hb1 : pcs b1 = tgt) (hb2 : pcs b2 = pc + 3) : kOK E p l e R s m args below meth c α0 nL nc0 ns0 res pc pcs (tNull b1 b2) := by
  intro fs r h
  obtain ⟨L, S, hsx⟩ := fs
  unfold tNull at h
  split at h
  · rename_i hS
    cases h
    simp only at hS
    subst hS
    refine ⟨Nat.le_refl _, Nat.le_refl _, fun _ _ k2 => ?_⟩
    intro α H locs ls lv st hp hR hV hL hl hs h1 h2
    obtain ⟨st, rfl, hg⟩ := kvS_null hs
    have k3 := k2 α H locs ls lv st hp hR hV hL hl hg h1 h2
    simp only [hb1] at k3
    exact lv_ifnullN C.1 C.2.1 hd ht k3
  · rename_i hS
    cases h
    simp only at hS
    subst hS
    refine ⟨Nat.le_refl _, Nat.le_refl _, fun _ _ k2 => ?_⟩
    intro α H locs ls lv st hp hR hV hL hl hs h1 h2
    obtain ⟨a, st, rfl, ha, hg⟩ := kvS_ref hs
    have k3 := k2 α H locs ls lv st hp hR hV hL hl hg h1 h2
    simp only [hb2] at k3
    exact lv_ifnull C.1 C.2.1 hd k3
  · cases h
theorem ok_ifnonnull {off : Int} {tgt b1 b2 : Nat} {pcs : Nat → Nat} (C : kCx E XX σ zs p l e R s m args below meth c α0 cc nL nc0 ns0 res own ws) (hd : decode cc pc = .ok (.ifnonnull off, 3)) (ht : (pc : Int) + off = (tgt : Int)) (hb1 : pcs b1 = tgt) (hb2 : pcs b2 = pc + 3) : kOK E p l e R s m args below meth c α0 nL nc0 ns0 res pc pcs (tNull b2 b1) := by
  intro fs r h
  obtain ⟨L, S, hsx⟩ := fs
  unfold tNull at h
  split at h
  · rename_i hS
    cases h
    simp only at hS
    subst hS
    refine ⟨Nat.le_refl _, Nat.le_refl _, fun _ _ k2 => ?_⟩
    intro α H locs ls lv st hp hR hV hL hl hs h1 h2
    obtain ⟨st, rfl, hg⟩ := kvS_null hs
    have k3 := k2 α H locs ls lv st hp hR hV hL hl hg h1 h2
    simp only [hb2] at k3
    exact lv_ifnonnullN C.1 C.2.1 hd k3
  · rename_i hS
    cases h
    simp only at hS
    subst hS
    refine ⟨Nat.le_refl _, Nat.le_refl _, fun _ _ k2 => ?_⟩
    intro α H locs ls lv st hp hR hV hL hl hs h1 h2
    obtain ⟨a, st, rfl, ha, hg⟩ := kvS_ref hs
    have k3 := k2 α H locs ls lv st hp hR hV hL hl hg h1 h2
    simp only [hb1] at k3
    exact lv_ifnonnull C.1 C.2.1 hd ht k3
  · cases h
/-- a switch by a table -/
def tTab (lo : Int) (bs : List Nat) (bd : Nat) : kOp := fun fs => match fs.2.1 with
  | .int x :: S => some (.inl (bif decide (x.toInt < lo) then bd else (bs[(x.toInt - lo).toNat]?).getD bd, (fs.1, S, fs.2.2)))
  | _ => none
theorem ok_table {dflt lo hi : Int} {offs : Array Int} {len : Nat} {bs : List Nat} {bd td : Nat} {pcs : Nat → Nat} (C : kCx E XX σ zs p l e R s m args below meth c α0 cc nL nc0 ns0 res own ws) (hd : decode cc pc = .ok (.tableswitch dflt lo hi offs, len)) (hhi : hi = lo + bs.length - 1) (ho : offs.toList.map (fun o => (pc : Int) + o) = bs.map (fun b => ((pcs b : Nat) : Int))) (hdf : (pc : Int) + dflt = (td : Int)) (hbd : pcs bd = td) : kOK E p l e R s m args below meth c α0 nL nc0 ns0 res pc pcs (tTab lo bs bd) := by
  intro fs r h
  obtain ⟨L, S, hsx⟩ := fs
  unfold tTab at h
  split at h
  · rename_i x r hS
    cases h
    simp only at hS
    subst hS
    refine ⟨Nat.le_refl _, Nat.le_refl _, fun _ _ k2 => ?_⟩
    intro α H locs ls lv st hp hR hV hL hl hs h1 h2
    obtain ⟨st, rfl, hg⟩ := kvS_int hs
    have k3 := k2 α H locs ls lv st hp hR hV hL hl hg h1 h2
    by_cases c1 : x.toInt < lo
    · simp only [c1, decide_true, cond_true, hbd] at k3
      exact lv_tableOut C.1 C.2.1 hd (Or.inl c1) hdf k3
    · simp only [c1, decide_false, cond_false] at k3
      by_cases c2 : hi < x.toInt
      · have hn : bs[(x.toInt - lo).toNat]? = none := by
          rw [List.getElem?_eq_none_iff]; omega
        rw [hn] at k3
        simp only [Option.getD_none, hbd] at k3
        exact lv_tableOut C.1 C.2.1 hd (Or.inr c2) hdf k3
      · have hlt : (x.toInt - lo).toNat < bs.length := by omega
        have hlen : offs.toList.length = bs.length := by
          have := congrArg List.length ho
          simpa using this
        have hlt2 : (x.toInt - lo).toNat < offs.toList.length := by omega
        have e1 : bs[(x.toInt - lo).toNat]? = some (bs[(x.toInt - lo).toNat]'hlt) := List.getElem?_eq_getElem hlt
        have e2 : offs[(x.toInt - lo).toNat]? = some (offs.toList[(x.toInt - lo).toNat]'hlt2) := by
          rw [← Array.getElem?_toList]; exact List.getElem?_eq_getElem hlt2
        have e3 := congrArg (fun l => l[(x.toInt - lo).toNat]?) ho
        simp only [List.getElem?_map, e1, List.getElem?_eq_getElem hlt2, Option.map_some, Option.some.injEq] at e3
        rw [e1] at k3
        simp only [Option.getD_some] at k3
        exact lv_tableIn C.1 C.2.1 hd c1 c2 e2 e3 k3
  · cases h
theorem k_end {α : List Nat} {vo wo : Option Value} {h : List kCel} {H : Heap} {locs : List Loc} (hp : α0 <+: α) (hR : kRep E s α h H) (hV : va_S (fun q => kb E ≤ q) s.heap H locs) (hv : kvO α vo = some wo) {ce sl : Nat} (t : State) (ht : t.heap = H) (hW : s.WarmedH t.vm) : kQc E α0 (.inl vo, (h, ce, sl)) args s (.returned wo) t :=
  ⟨⟨α, vo, wo, hp, rfl, rfl, hv, by rw [ht]; exact hR.moved hW.alike⟩, hV.F ht⟩
def tIret : kOp := fun fs => match fs.2.1 with
  | [.int v] => some (.inr (.inl (some (.int v)), fs.2.2))
  | _ => none
theorem ok_ireturn {pcs : Nat → Nat} (C : kCx E XX σ zs p l e R s m args below meth c α0 cc nL nc0 ns0 res own ws) (hr : meth.sig.returnType = some .int) (hd : decode cc pc = .ok (.ireturn, 1)) : kOK E p l e R s m args below meth c α0 nL nc0 ns0 res pc pcs tIret := by
  intro fs r h
  obtain ⟨L, S, hsx⟩ := fs
  obtain ⟨hh, hc, hn⟩ := hsx
  unfold tIret at h
  split at h
  · rename_i v hS
    simp only at hS
    subst hS
    cases h
    refine ⟨Nat.le_refl _, Nat.le_refl _, fun hq => ?_⟩
    subst hq
    intro α H locs ls lv st hp hR hV hL hl hs h1 h2
    obtain ⟨st, rfl, hx⟩ := kvS_int hs
    cases hx
    refine vx_ret ?_
    exact W.iret C.1 C.2.1 hr (k_end hp hR hV rfl) hV.2.2 hd (hlocks := C.2.2.2.2.2.1)
  · cases h
def tLret : kOp := fun fs => match fs.2.1 with
  | [.long v] => some (.inr (.inl (some (.long v)), fs.2.2))
  | _ => none
theorem ok_lreturn {pcs : Nat → Nat} (C : kCx E XX σ zs p l e R s m args below meth c α0 cc nL nc0 ns0 res own ws) (hr : meth.sig.returnType = some .long) (hd : decode cc pc = .ok (.lreturn, 1)) : kOK E p l e R s m args below meth c α0 nL nc0 ns0 res pc pcs tLret := by
  intro fs r h
  obtain ⟨L, S, hsx⟩ := fs
  obtain ⟨hh, hc, hn⟩ := hsx
  unfold tLret at h
  split at h
  · rename_i v hS
    simp only at hS
    subst hS
    cases h
    refine ⟨Nat.le_refl _, Nat.le_refl _, fun hq => ?_⟩
    subst hq
    intro α H locs ls lv st hp hR hV hL hl hs h1 h2
    obtain ⟨st, rfl, hx⟩ := kvS_long hs
    cases hx
    refine vx_ret ?_
    exact W.lret C.1 C.2.1 hr (k_end hp hR hV rfl) hV.2.2 hd (hlocks := C.2.2.2.2.2.1)
  · cases h
def tDret : kOp := fun fs => match fs.2.1 with
  | [.double v] => some (.inr (.inl (some (.double v)), fs.2.2))
  | _ => none
theorem ok_dreturn {pcs : Nat → Nat} (C : kCx E XX σ zs p l e R s m args below meth c α0 cc nL nc0 ns0 res own ws) (hr : meth.sig.returnType = some .double) (hd : decode cc pc = .ok (.dreturn, 1)) : kOK E p l e R s m args below meth c α0 nL nc0 ns0 res pc pcs tDret := by
  intro fs r h
  obtain ⟨L, S, hsx⟩ := fs
  obtain ⟨hh, hc, hn⟩ := hsx
  unfold tDret at h
  split at h
  · rename_i v hS
    simp only at hS
    subst hS
    cases h
    refine ⟨Nat.le_refl _, Nat.le_refl _, fun hq => ?_⟩
    subst hq
    intro α H locs ls lv st hp hR hV hL hl hs h1 h2
    obtain ⟨st, rfl, hx⟩ := kvS_double hs
    cases hx
    refine vx_ret ?_
    exact W.dret C.1 C.2.1 hr (k_end hp hR hV rfl) hV.2.2 hd (hlocks := C.2.2.2.2.2.1)
  · cases h
def tZret : kOp := fun fs => match fs.2.1 with
  | [.int v] => bif v == 0 || v == 1 then some (.inr (.inl (some (.int v)), fs.2.2)) else none
  | _ => none
theorem ok_zreturn {pcs : Nat → Nat} (C : kCx E XX σ zs p l e R s m args below meth c α0 cc nL nc0 ns0 res own ws) (hr : meth.sig.returnType = some .boolean) (hd : decode cc pc = .ok (.ireturn, 1)) : kOK E p l e R s m args below meth c α0 nL nc0 ns0 res pc pcs tZret := by
  intro fs r h
  obtain ⟨L, S, hsx⟩ := fs
  obtain ⟨hh, hc, hn⟩ := hsx
  unfold tZret at h
  split at h
  · rename_i v hS
    simp only at hS
    subst hS
    cases hg : (v == 0 || v == 1) with
    | false => rw [hg] at h; cases h
    | true =>
    rw [hg] at h
    cases h
    refine ⟨Nat.le_refl _, Nat.le_refl _, fun hq => ?_⟩
    subst hq
    intro α H locs ls lv st hp hR hV hL hl hs h1 h2
    obtain ⟨st, rfl, hx⟩ := kvS_int hs
    cases hx
    refine vx_ret ?_
    exact W.zret C.1 C.2.1 hr (by simp only [Bool.or_eq_true, beq_iff_eq] at hg; rcases hg with rfl | rfl <;> rfl) (k_end hp hR hV rfl) hV.2.2 hd (hlocks := C.2.2.2.2.2.1)
  · cases h
def tVret : kOp := fun fs => match fs.2.1 with
  | [] => some (.inr (.inl none, fs.2.2))
  | _ => none
theorem ok_return {pcs : Nat → Nat} (C : kCx E XX σ zs p l e R s m args below meth c α0 cc nL nc0 ns0 res own ws) (hr : meth.sig.returnType = none) (hd : decode cc pc = .ok (.return_, 1)) : kOK E p l e R s m args below meth c α0 nL nc0 ns0 res pc pcs tVret := by
  intro fs r h
  obtain ⟨L, S, hsx⟩ := fs
  obtain ⟨hh, hc, hn⟩ := hsx
  unfold tVret at h
  split at h
  · rename_i hS
    simp only at hS
    subst hS
    cases h
    refine ⟨Nat.le_refl _, Nat.le_refl _, fun hq => ?_⟩
    subst hq
    intro α H locs ls lv st hp hR hV hL hl hs h1 h2
    cases hs
    refine vx_ret ?_
    exact W.vret C.1 C.2.1 hr (k_end hp hR hV rfl) hV.2.2 hd (hlocks := C.2.2.2.2.2.1)
  · cases h
def tAret : kOp := fun fs => match fs.2.1 with
  | [.ref v] => some (.inr (.inl (some (.ref v)), fs.2.2))
  | [.null] => some (.inr (.inl (some .null), fs.2.2))
  | _ => none
theorem ok_areturn {rt : FieldType} {pcs : Nat → Nat} (C : kCx E XX σ zs p l e R s m args below meth c α0 cc nL nc0 ns0 res own ws) (hr : meth.sig.returnType = some rt) (hrt : (∃ n, rt = .object n) ∨ ∃ t, rt = .array t) (hd : decode cc pc = .ok (.areturn, 1)) : kOK E p l e R s m args below meth c α0 nL nc0 ns0 res pc pcs tAret := by
  intro fs r h
  obtain ⟨L, S, hsx⟩ := fs
  obtain ⟨hh, hc, hn⟩ := hsx
  unfold tAret at h
  split at h
  · rename_i v hS
    simp only at hS
    subst hS
    cases h
    refine ⟨Nat.le_refl _, Nat.le_refl _, fun hq => ?_⟩
    subst hq
    intro α H locs ls lv st hp hR hV hL hl hs h1 h2
    obtain ⟨a, st, rfl, ha, hx⟩ := kvS_ref hs
    cases hx
    refine vx_ret ?_
    exact W.aret C.1 C.2.1 hr hrt (Or.inr ⟨a, rfl⟩) (k_end hp hR hV (by simp [kvO, kv_ref ha])) hV.2.2 hd (hlocks := C.2.2.2.2.2.1)
  · rename_i hS
    simp only at hS
    subst hS
    cases h
    refine ⟨Nat.le_refl _, Nat.le_refl _, fun hq => ?_⟩
    subst hq
    intro α H locs ls lv st hp hR hV hL hl hs h1 h2
    obtain ⟨st, rfl, hx⟩ := kvS_null hs
    cases hx
    refine vx_ret ?_
    exact W.aret C.1 C.2.1 hr hrt (Or.inl rfl) (k_end hp hR hV rfl) hV.2.2 hd (hlocks := C.2.2.2.2.2.1)
  · cases h
end KLOC
