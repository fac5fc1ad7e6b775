/-! ===== further operations ===== -/
section KMORE
variable {p : Program} {l : Launch} {e : Env} {R : Room} {s : State} {m : MethodId} {args : Array Value} {below : List Frame} {meth : Method} {c : Code}
variable {E : kE} {XX : State → Prop} {σ α0 : List Nat} {cc : ByteArray} {nL nc0 ns0 : Nat} {res : kRes} {pc pc' : Nat} {own : String} {ws : List Cond} {zs : List (String × String × Nat)}
theorem ok_iushr (C : kCx E XX σ zs p l e R s m args below meth c α0 cc nL nc0 ns0 res own ws) (hd : decode cc pc = .ok (.iushr, 1)) : kOK E p l e R s m args below meth c α0 nL nc0 ns0 res pc (kTo (pc + 1)) (oBin fun x y => (x.toUInt32 >>> (y.toUInt32 &&& Int32.toUInt32 31)).toInt32) := ok_bin fun x y rest H locs ce sl ls Q k => lv_iushr C.1 C.2.1 hd rfl k
theorem ok_getsN {k ix : Nat} {Cn nm host : String} (C : kCx E XX σ zs p l e R s m args below meth c α0 cc nL nc0 ns0 res own ws) (hz : (Cn, nm, k) ∈ zs) (hlink : va_Nw (.fieldLinkNest own ix Cn nm "[I" host) s) (hd : decode cc pc = .ok (.getstatic ix, 3)) : kOK E p l e R s m args below meth c α0 nL nc0 ns0 res pc (kTo (pc + 3)) (oGetS k) := by
  intro fs r h
  cases h
  refine ⟨Nat.le_refl _, Nat.le_refl _, fun _ _ k2 => ?_⟩
  intro α H locs ls lv st hp hR hV hL hl hs h1 h2
  obtain ⟨a, ha, hZ⟩ := C.2.2.2.2.2.2.1.2.2.2.1 _ hz
  have ha2 : α[k]? = some a := k_pre ha (List.IsPrefix.trans C.2.2.2.2.2.2.2.2.1 hp)
  exact va_getsN C.1 C.2.1 hZ hV C.2.2.2.1 (va_Nw.use rfl hlink) (fun _ h => h) hd (k2 α H locs ls lv _ hp hR hV hL hl (kvS_mk (kv_ref ha2) hs) h1 h2)
theorem ok_ldcw {v : Int32} {ix : Nat} (C : kCx E XX σ zs p l e R s m args below meth c α0 cc nL nc0 ns0 res own ws) (hd : decode cc pc = .ok (.ldc_w ix, 3)) (hw : Jvm.Cond.constant own ix v ∈ ws) : kOK E p l e R s m args below meth c α0 nL nc0 ns0 res pc (kTo (pc + 3)) (oS (gPush (.int v))) := ok_push (fun _ => rfl) fun rest H locs ce sl ls Q k => lv_ldcw C.1 C.2.1 C.2.2.2.1 (C.2.2.2.2.1 _ hw) hd k
def kfind : List (Int × Nat) → Nat → Int → Nat
  | [], bd, _ => bd
  | q :: r, bd, x => bif decide (x = q.1) then q.2 else kfind r bd x
/-- a switch by a list of keys -/
def tLook (ks : List (Int × Nat)) (bd : Nat) : kOp := fun fs => match fs.2.1 with
  | .int x :: S => some (.inl (kfind ks bd x.toInt, (fs.1, S, fs.2.2)))
  | _ => none
theorem k_look {pcs : Nat → Nat} {pc bd td : Nat} {dflt : Int} (hdf : (pc : Int) + dflt = (td : Int)) (hbd : pcs bd = td) (x : Int) : ∀ (ps : List (Int × Int)) (ks : List (Int × Nat)), ps.map (fun q => (q.1, (pc : Int) + q.2)) = ks.map (fun q => (q.1, ((pcs q.2 : Nat) : Int))) → (pc : Int) + Op.lookupswitch.offset ps dflt x = ((pcs (kfind ks bd x) : Nat) : Int)
  | [], [], _ => by
    show (pc : Int) + dflt = _
    rw [hdf]
    show (td : Int) = ((pcs bd : Nat) : Int)
    rw [hbd]
  | [], _ :: _, h => by simp at h
  | _ :: _, [], h => by simp at h
  | p :: ps, q :: ks, h => by
    simp only [List.map_cons, List.cons.injEq, Prod.mk.injEq] at h
    obtain ⟨⟨h1, h2⟩, h3⟩ := h
    obtain ⟨a, o⟩ := p
    obtain ⟨b, t⟩ := q
    simp only at h1 h2
    subst h1
    rw [Op.lookupswitch.offset_cons]
    unfold kfind
    by_cases e : x = a
    · subst e
      simp [h2]
    · rw [if_neg (fun z => e z.symm)]
      simp only [e, decide_false, cond_false]
      exact k_look hdf hbd x ps ks h3
theorem ok_look {dflt : Int} {ps : Array (Int × Int)} {len : Nat} {ks : List (Int × Nat)} {bd td : Nat} {pcs : Nat → Nat} (C : kCx E XX σ zs p l e R s m args below meth c α0 cc nL nc0 ns0 res own ws) (hd : decode cc pc = .ok (.lookupswitch dflt ps, len)) (hs1 : (ps.toList.zip (ps.toList.drop 1)).all (fun (a, next) => a.1 < next.1) = true) (ho : ps.toList.map (fun q => (q.1, (pc : Int) + q.2)) = ks.map (fun q => (q.1, ((pcs q.2 : Nat) : Int)))) (hdf : (pc : Int) + dflt = (td : Int)) (hbd : pcs bd = td) : kOK E p l e R s m args below meth c α0 nL nc0 ns0 res pc pcs (tLook ks bd) := by
  intro fs r h
  obtain ⟨L, S, hsx⟩ := fs
  unfold tLook at h
  split at h
  · rename_i x r hS
    cases h
    simp only at hS
    subst hS
    refine ⟨Nat.le_refl _, Nat.le_refl _, fun _ _ k2 => ?_⟩
    intro α H locs ls lv st hp hR hV hL hl hs h1 h2
    obtain ⟨st, rfl, hg⟩ := kvS_int hs
    exact lv_lookup C.1 C.2.1 hd hs1 rfl (k_look hdf hbd x.toInt ps.toList ks ho) (k2 α H locs ls lv st hp hR hV hL hl hg h1 h2)
  · cases h
end KMORE
def kAllB (P : Nat → List kOp → Prop) : Nat → List (List kOp) → Prop
  | _, [] => True
  | i, o :: os => P i o ∧ kAllB P (i + 1) os
theorem kAllB_at {P : Nat → List kOp → Prop} : ∀ (bl : List (List kOp)) (i : Nat), kAllB P i bl → ∀ (b : Nat) (ops : List kOp), bl[b]? = some ops → P (i + b) ops
  | [], i, _, b, ops, h => by simp at h
  | o :: os, i, hP, 0, ops, h => by
    cases h
    exact hP.1
  | o :: os, i, hP, b + 1, ops, h => by
    rw [List.getElem?_cons_succ] at h
    have := kAllB_at os (i + 1) hP.2 b ops h
    rwa [show i + 1 + b = i + (b + 1) by omega] at this
theorem kAllB_get {P : Nat → List kOp → Prop} {bl : List (List kOp)} (h : kAllB P 0 bl) : ∀ (b : Nat) (ops : List kOp), bl[b]? = some ops → P b ops := fun b ops hb => by
  have := kAllB_at bl 0 h b ops hb
  rwa [Nat.zero_add] at this
/-- the good words of the tables -/
def kG : List Cond := lw_tbl.filter goodWord
theorem kG_of {w : Cond} (h1 : w ∈ lw_tbl) (h2 : goodWord w = true) : w ∈ kG := List.mem_filter.mpr ⟨h1, h2⟩
abbrev kws (y : MethodName) (b : ByteArray) (n : Nat) (r : Option FieldType) : List Cond := Cond.code y b n r :: kG
theorem kG_in {w c0 : Cond} (h : w ∈ kG) : w ∈ c0 :: kG := List.mem_cons_of_mem _ h
theorem kG_good {c0 : Cond} {ws' : List Cond} (h : ∀ w ∈ ws', w ∈ kG) : GoodIn (c0 :: kG) ws' := fun w hw => ⟨List.mem_cons_of_mem _ (h w hw), good_of_word (List.mem_filter.mp (h w hw)).2⟩
theorem kG_ws {c0 : Cond} {y : MethodName} {b : ByteArray} {n : Nat} {r : Option FieldType} (h : Cond.code y b n r ∈ kG) : GoodIn (c0 :: kG) (kws y b n r) := kG_good fun w hw => by
  rcases List.mem_cons.mp hw with rfl | hw
  · exact h
  · exact hw
theorem kG_s {c0 : Cond} {own : String} {ix : Nat} {y : MethodName} {b : ByteArray} {n : Nat} {r : Option FieldType} (h : Cond.code y b n r ∈ kG) (h1 : Cond.methodLink own ix y ∈ kG) (h2 : Cond.static y ∈ kG) (h3 : Cond.initialized y.cls ∈ kG) : GoodIn (c0 :: kG) (va_wsS own ix y (kws y b n r)) := kG_good fun w hw => by
  unfold va_wsS at hw
  rcases List.mem_append.mp hw with hw | hw
  · simp only [List.mem_cons, List.not_mem_nil, or_false] at hw
    rcases hw with rfl | rfl | rfl
    · exact h1
    · exact h2
    · exact h3
  · rcases List.mem_cons.mp hw with rfl | hw
    · exact h
    · exact hw
theorem kG_v {c0 : Cond} {own Cn : String} {ix : Nat} {y : MethodName} {b : ByteArray} {n : Nat} {r : Option FieldType} (h : Cond.code y b n r ∈ kG) (h1 : Cond.methodLink own ix y ∈ kG) (h2 : Cond.instanceMethod y ∈ kG) (h3 : Cond.selects Cn y y ∈ kG) (h4 : Cond.initialized Cn ∈ kG) : GoodIn (c0 :: kG) (wsV own ix Cn y (kws y b n r)) := kG_good fun w hw => by
  unfold wsV at hw
  rcases List.mem_append.mp hw with hw | hw
  · simp only [List.mem_cons, List.not_mem_nil, or_false] at hw
    rcases hw with rfl | rfl | rfl | rfl
    · exact h1
    · exact h2
    · exact h3
    · exact h4
  · rcases List.mem_cons.mp hw with rfl | hw
    · exact h
    · exact hw
