/-! ===== further operations ===== -/
section KMORE
variable {p : Program} {l : Launch} {e : Env} {R : Room} {s : State} {m : MethodId} {args : Array Value} {below : List Frame} {meth : Method} {c : Code}
variable {E : kE} {XX : State → Prop} {σ α0 : List Nat} {cc : ByteArray} {nL nc0 ns0 : Nat} {res : kRes} {pc pc' : Nat} {own : String} {ws : List Cond} {zs : List (String × String × Nat)}
theorem ok_iushr (C : kCx E XX σ zs p l e R s m args below meth c α0 cc nL nc0 ns0 res own ws) (hd : decode cc pc = .ok (.iushr, 1)) : kOK E p l e R s m args below meth c α0 nL nc0 ns0 res pc (kTo (pc + 1)) (oBin fun x y => (x.toUInt32 >>> (y.toUInt32 &&& Int32.toUInt32 31)).toInt32) := ok_bin fun x y rest H locs ce sl ls Q k => lv_iushr C.1 C.2.1 hd rfl k
theorem ok_getsN {k ix : Nat} {Cn nm host : String} (C : kCx E XX σ zs p l e R s m args below meth c α0 cc nL nc0 ns0 res own ws) (hz : (Cn, nm, k) ∈ zs) (hlink : va_Nw (.fieldLinkNest own ix Cn nm "[I" host) s) (hd : decode cc pc = .ok (.getstatic ix, 3)) : kOK E p l e R s m args below meth c α0 nL nc0 ns0 res pc (kTo (pc + 3)) (oGetS k) := by
  intro fs r h
  cases h
  refine ⟨Nat.le_refl _, Nat.le_refl _, fun _ _ k2 => ?_⟩
  intro α H locs ls lv st hp hR hV hL hl hs h1 h2
  obtain ⟨a, ha, hZ⟩ := C.2.2.2.2.2.2.1.2.2.2.1 _ hz
  have ha2 : α[k]? = some a := k_pre ha (List.IsPrefix.trans C.2.2.2.2.2.2.2.2.1 hp)
  exact va_getsN C.1 C.2.1 hZ hV C.2.2.2.1 (va_Nw.use rfl hlink) (fun _ h => h) hd (k2 α H locs ls lv _ hp hR hV hL hl (kvS_mk (kv_ref ha2) hs) h1 h2)
theorem ok_ldcw {v : Int32} {ix : Nat} (C : kCx E XX σ zs p l e R s m args below meth c α0 cc nL nc0 ns0 res own ws) (hd : decode cc pc = .ok (.ldc_w ix, 3)) (hw : Jvm.Cond.constant own ix v ∈ ws) : kOK E p l e R s m args below meth c α0 nL nc0 ns0 res pc (kTo (pc + 3)) (oS (gPush (.int v))) := ok_push (fun _ => rfl) fun rest H locs ce sl ls Q k => lv_ldcw C.1 C.2.1 C.2.2.2.1 (C.2.2.2.2.1 _ hw) hd k
def kfind : List (Int × Nat) → Nat → Int → Nat
  | [], bd, _ => bd
  | q :: r, bd, x => bif decide (x = q.1) then q.2 else kfind r bd x
/-- a switch by a list of keys -/
def tLook (ks : List (Int × Nat)) (bd : Nat) : kOp := fun fs => match fs.2.1 with
  | .int x :: S => some (.inl (kfind ks bd x.toInt, (fs.1, S, fs.2.2)))
  | _ => none
theorem k_look {pcs : Nat → Nat} {pc bd td : Nat} {dflt : Int} (hdf : (pc : Int) + dflt = (td : Int)) (hbd : pcs bd = td) (x : Int) : ∀ (ps : List (Int × Int)) (ks : List (Int × Nat)), ps.map (fun q => (q.1, (pc : Int) + q.2)) = ks.map (fun q => (q.1, ((pcs q.2 : Nat) : Int))) → (pc : Int) + Op.lookupswitch.offset ps dflt x = ((pcs (kfind ks bd x) : Nat) : Int)
  | [], [], _ => by
    show (pc : Int) + dflt = _
    rw [hdf]
    show (td : Int) = ((pcs bd : Nat) : Int)
    rw [hbd]
  | [], _ :: _, h => by simp at h
  | _ :: _, [], h => by simp at h
  | p :: ps, q :: ks, h => by
    simp only [List.map_cons, List.cons.injEq, Prod.mk.injEq] at h
    obtain ⟨⟨h1, h2⟩, h3⟩ := h
    obtain ⟨a, o⟩ := p
    obtain ⟨b, t⟩ := q
    simp only at h1 h2
    subst h1
    rw [Op.lookupswitch.offset_cons]
    unfold kfind
    by_cases e : x = a
    · subst e
      simp [h2]
    · rw [if_neg (fun z => e z.symm)]
      simp only [e, decide_false, cond_false]
      exact k_look hdf hbd x ps ks h3
theorem ok_look {dflt : Int} {ps : Array (Int × Int)} {len : Nat} {ks : List (Int × Nat)} {bd td : Nat} {pcs : Nat → Nat} (C : kCx E XX σ zs p l e R s m args below meth c α0 cc nL nc0 ns0 res own ws) (hd : decode cc pc = .ok (.lookupswitch dflt ps, len)) (hs1 : (ps.toList.zip (ps.toList.drop 1)).all (fun (a, next) => a.1 < next.1) = true) (ho : ps.toList.map (fun q => (q.1, (pc : Int) + q.2)) = ks.map (fun q => (q.1, ((pcs q.2 : Nat) : Int)))) (hdf : (pc : Int) + dflt = (td : Int)) (hbd : pcs bd = td) : kOK E p l e R s m args below meth c α0 nL nc0 ns0 res pc pcs (tLook ks bd) := by
  intro fs r h
  obtain ⟨L, S, hsx⟩ := fs
  unfold tLook at h
  split at h
  · rename_i x r hS
    cases h
    simp only at hS
    subst hS
    refine ⟨Nat.le_refl _, Nat.le_refl _, fun _ _ k2 => ?_⟩
    intro α H locs ls lv st hp hR hV hL hl hs h1 h2
    obtain ⟨st, rfl, hg⟩ := kvS_int hs
    exact lv_lookup C.1 C.2.1 hd hs1 rfl (k_look hdf hbd x.toInt ps.toList ks ho) (k2 α H locs ls lv st hp hR hV hL hl hg h1 h2)
  · cases h
end KMORE
def kAllB (P : Nat → List kOp → Prop) : Nat → List (List kOp) → Prop
  | _, [] => True
  | i, o :: os => P i o ∧ kAllB P (i + 1) os
theorem kAllB_at {P : Nat → List kOp → Prop} : ∀ (bl : List (List kOp)) (i : Nat), kAllB P i bl → ∀ (b : Nat) (ops : List kOp), bl[b]? = some ops → P (i + b) ops
  | [], i, _, b, ops, h => by simp at h
  | o :: os, i, hP, 0, ops, h => by
    cases h
    exact hP.1
  | o :: os, i, hP, b + 1, ops, h => by
    rw [List.getElem?_cons_succ] at h
    have := kAllB_at os (i + 1) hP.2 b ops h
    rwa [show i + 1 + b = i + (b + 1) by omega] at this
theorem kAllB_get {P : Nat → List kOp → Prop} {bl : List (List kOp)} (h : kAllB P 0 bl) : ∀ (b : Nat) (ops : List kOp), bl[b]? = some ops → P b ops := fun b ops hb => by
  have := kAllB_at bl 0 h b ops hb
  rwa [Nat.zero_add] at this
/-- the good words of the tables -/
def kG : List Cond := lw_tbl.filter goodWord
theorem kG_of {w : Cond} (h1 : w ∈ lw_tbl) (h2 : goodWord w = true) : w ∈ kG := List.mem_filter.mpr ⟨h1, h2⟩
abbrev kws (y : MethodName) (b : ByteArray) (n : Nat) (r : Option FieldType) : List Cond := Cond.code y b n r :: kG
theorem kG_in {w c0 : Cond} (h : w ∈ kG) : w ∈ c0 :: kG := List.mem_cons_of_mem _ h
theorem kG_good {c0 : Cond} {ws' : List Cond} (h : ∀ w ∈ ws', w ∈ kG) : GoodIn (c0 :: kG) ws' := fun w hw => ⟨List.mem_cons_of_mem _ (h w hw), good_of_word (List.mem_filter.mp (h w hw)).2⟩
theorem kG_ws {c0 : Cond} {y : MethodName} {b : ByteArray} {n : Nat} {r : Option FieldType} (h : Cond.code y b n r ∈ kG) : GoodIn (c0 :: kG) (kws y b n r) := kG_good fun w hw => by
  rcases List.mem_cons.mp hw with rfl | hw
  · exact h
  · exact hw
theorem kG_s {c0 : Cond} {own : String} {ix : Nat} {y : MethodName} {b : ByteArray} {n : Nat} {r : Option FieldType} (h : Cond.code y b n r ∈ kG) (h1 : Cond.methodLink own ix y ∈ kG) (h2 : Cond.static y ∈ kG) (h3 : Cond.initialized y.cls ∈ kG) : GoodIn (c0 :: kG) (va_wsS own ix y (kws y b n r)) := kG_good fun w hw => by
  unfold va_wsS at hw
  rcases List.mem_append.mp hw with hw | hw
  · simp only [List.mem_cons, List.not_mem_nil, or_false] at hw
    rcases hw with rfl | rfl | rfl
    · exact h1
    · exact h2
    · exact h3
  · rcases List.mem_cons.mp hw with rfl | hw
    · exact h
    · exact hw
theorem kG_v {c0 : Cond} {own Cn : String} {ix : Nat} {y : MethodName} {b : ByteArray} {n : Nat} {r : Option FieldType} (h : Cond.code y b n r ∈ kG) (h1 : Cond.methodLink own ix y ∈ kG) (h2 : Cond.instanceMethod y ∈ kG) (h3 : Cond.selects Cn y y ∈ kG) (h4 : Cond.initialized Cn ∈ kG) : GoodIn (c0 :: kG) (wsV own ix Cn y (kws y b n r)) := kG_good fun w hw => by
  unfold wsV at hw
  rcases List.mem_append.mp hw with hw | hw
  · simp only [List.mem_cons, List.not_mem_nil, or_false] at hw
    rcases hw with rfl | rfl | rfl | rfl
    · exact h1
    · exact h2
    · exact h3
    · exact h4
  · rcases List.mem_cons.mp hw with rfl | hw
    · exact h
    · exact hw
section KMORE2
variable {p : Program} {l : Launch} {e : Env} {R : Room} {s : State} {m : MethodId} {args : Array Value} {below : List Frame} {meth : Method} {c : Code}
variable {E : kE} {XX : State → Prop} {σ α0 : List Nat} {cc : ByteArray} {nL nc0 ns0 : Nat} {res : kRes} {pc pc' : Nat} {own : String} {ws : List Cond} {zs : List (String × String × Nat)}
def oMax (gt : Bool) : kOp := fun fs => match fs.2.1 with
  | .int y :: .int x :: S => bif Nat.ble S.length 4 then some (.inl (0, (fs.1, .int (bif decide (x < y) == gt then y else x) :: S, fs.2.2))) else none
  | _ => none
theorem ok_max {ix : Nat} (C : kCx E XX σ zs p l e R s m args below meth c α0 cc nL nc0 ns0 res own ws) (h1 : Cond.methodLink own ix Lib.Math.max.name ∈ ws) (h2 : Cond.static Lib.Math.max.name ∈ ws) (h3 : Cond.initialized "java/lang/Math" ∈ ws) (h4 : Cond.code Lib.Math.max.name Lib.Math.max.code 2 (some .int) ∈ ws) (hd : decode cc pc = .ok (.invokestatic ix, 3)) : kOK E p l e R s m args below meth c α0 nL nc0 ns0 res pc (kTo (pc + 3)) (oMax true) := by
  intro fs r h
  obtain ⟨L, S0, hh, nc, ns⟩ := fs
  unfold oMax at h
  split at h
  · rename_i y x S hS
    simp only at hS
    subst hS
    cases hb : Nat.ble S.length 4 with
    | false => rw [hb] at h; cases h
    | true =>
    rw [hb] at h
    cases h
    refine ⟨Nat.le_refl _, Nat.le_refl _, fun b1 b2 k2 => ?_⟩
    intro α H locs ls lv st hp hR hV hL hl hs g1 g2
    dsimp only at b1 b2 g1 g2
    obtain ⟨st1, rfl, hs1⟩ := kvS_int hs
    obtain ⟨st, rfl, hs2⟩ := kvS_int hs1
    have hts := C.2.2.2.2.1
    have hRc := C.2.2.2.2.2.2.2.2.2.2.1
    have hRs := C.2.2.2.2.2.2.2.2.2.2.2.1
    have hf := C.2.2.2.2.2.2.2.2.2.2.2.2.1
    have hlo := C.2.2.2.2.2.2.2.2.2.2.2.2.2
    have h6 := Nat.le_of_ble_eq_true hb
    have h5 := kvS_cats hs2
    refine va_mmax C.1 C.2.1 (by rw [C.2.2.1]; exact hl.1.symm) C.2.2.2.1 (hts _ h1) (hts _ h2) (hts _ h3) (hts _ h4) (by omega) (by omega) (by refine Nat.le_trans ?_ hRc; dsimp only; omega) (by refine Nat.le_trans ?_ hRs; dsimp only; omega) hd ?_
    have e : (bif decide (x < y) == true then y else x) = (if x < y then y else x) := by
      by_cases hxy : x < y
      · simp [hxy]
      · simp [hxy]
    rw [e] at k2
    exact k2 α H locs ls lv _ hp hR hV hL hl (kvS_mk rfl hs2) g1 g2
  · cases h
def oMin : kOp := fun fs => match fs.2.1 with
  | .int y :: .int x :: S => bif Nat.ble S.length 4 then some (.inl (0, (fs.1, .int (bif decide (y < x) then y else x) :: S, fs.2.2))) else none
  | _ => none
theorem ok_min {ix : Nat} (C : kCx E XX σ zs p l e R s m args below meth c α0 cc nL nc0 ns0 res own ws) (h1 : Cond.methodLink own ix Lib.Math.min.name ∈ ws) (h2 : Cond.static Lib.Math.min.name ∈ ws) (h3 : Cond.initialized "java/lang/Math" ∈ ws) (h4 : Cond.code Lib.Math.min.name Lib.Math.min.code 2 (some .int) ∈ ws) (hd : decode cc pc = .ok (.invokestatic ix, 3)) : kOK E p l e R s m args below meth c α0 nL nc0 ns0 res pc (kTo (pc + 3)) (oMin) := by
  intro fs r h
  obtain ⟨L, S0, hh, nc, ns⟩ := fs
  unfold oMin at h
  split at h
  · rename_i y x S hS
    simp only at hS
    subst hS
    cases hb : Nat.ble S.length 4 with
    | false => rw [hb] at h; cases h
    | true =>
    rw [hb] at h
    cases h
    refine ⟨Nat.le_refl _, Nat.le_refl _, fun b1 b2 k2 => ?_⟩
    intro α H locs ls lv st hp hR hV hL hl hs g1 g2
    dsimp only at b1 b2 g1 g2
    obtain ⟨st1, rfl, hs1⟩ := kvS_int hs
    obtain ⟨st, rfl, hs2⟩ := kvS_int hs1
    have hts := C.2.2.2.2.1
    have hRc := C.2.2.2.2.2.2.2.2.2.2.1
    have hRs := C.2.2.2.2.2.2.2.2.2.2.2.1
    have hf := C.2.2.2.2.2.2.2.2.2.2.2.2.1
    have hlo := C.2.2.2.2.2.2.2.2.2.2.2.2.2
    have h6 := Nat.le_of_ble_eq_true hb
    have h5 := kvS_cats hs2
    refine va_mmin C.1 C.2.1 (by rw [C.2.2.1]; exact hl.1.symm) C.2.2.2.1 (hts _ h1) (hts _ h2) (hts _ h3) (hts _ h4) (by omega) (by omega) (by refine Nat.le_trans ?_ hRc; dsimp only; omega) (by refine Nat.le_trans ?_ hRs; dsimp only; omega) hd ?_
    have e : (bif decide (y < x) then y else x) = (if y < x then y else x) := by
      by_cases hxy : y < x
      · simp [hxy]
      · simp [hxy]
    rw [e] at k2
    exact k2 α H locs ls lv _ hp hR hV hL hl (kvS_mk rfl hs2) g1 g2
  · cases h
theorem ok_throwW {k ik is ic sa : Nat} {text : String} {names : List String} {pcs : Nat → Nat} (C : kCx E XX σ zs p l e R s m args below meth c α0 cc nL nc0 ns0 res own ws) (hcls : Bundle.fit (kEx k) = true) (hnames : ∀ n ∈ names, Bundle.fit n = true) (hnl : names.length ≤ 3) (hk : Cond.classLink own ik (kEx k) ∈ ws) (hini : Cond.initialized (kEx k) ∈ ws) (hstr : vk_R own is text sa s) (hat : ∀ w ∈ vx_atS own ic (kEx k) names, w.before args s = true) (hgood : ∀ w ∈ Cond.classLink own ik (kEx k) :: Cond.initialized (kEx k) :: vx_atS own ic (kEx k) names, vx_ot w = true)
    (hU : vx_Zq Bundle.tN "UNASSIGNED_STACK" Bundle.steD (fun q => kb E ≤ q) s s.heap) (hN : vx_Zq Bundle.tN "SUPPRESSED_SENTINEL" Bundle.listD (fun q => kb E ≤ q) s s.heap)
    (d0 : decode cc pc = .ok (.new ik, 3)) (d3 : decode cc (pc + 3) = .ok (.dup, 1)) (d4 : decode cc (pc + 4) = .ok (.ldc_w is, 3)) (d7 : decode cc (pc + 7) = .ok (.invokespecial ic, 3)) (d10 : decode cc (pc + 10) = .ok (.athrow, 1)) (hout : ∀ x ∈ c.exceptionTable.toList, False) : kOK E p l e R s m args below meth c α0 nL nc0 ns0 res pc pcs (tThrow k) := by
  intro fs r h
  obtain ⟨L, S0, hh, nc, ns⟩ := fs
  unfold tThrow at h
  cases hb : Nat.ble S0.length 4 with
  | false => rw [hb] at h; cases h
  | true =>
  rw [hb] at h
  cases h
  refine ⟨Nat.le_succ _, Nat.le_add_right _ _, fun hq => ?_⟩
  subst hq
  intro α H locs ls lv st hp hR hV hL hl hs g1 g2
  dsimp only at g1 g2
  have hts := C.2.2.2.2.1
  have hRc := C.2.2.2.2.2.2.2.2.2.2.1
  have hRs := C.2.2.2.2.2.2.2.2.2.2.2.1
  have hf := C.2.2.2.2.2.2.2.2.2.2.2.2.1
  have hlo := C.2.2.2.2.2.2.2.2.2.2.2.2.2
  dsimp only at hRc hRs
  have h4 := Nat.le_of_ble_eq_true hb
  have h5 := kvS_cats hs
  dsimp only at h5
  have hc1 : nc - nc0 + 1 ≤ R.cells := by refine Nat.le_trans ?_ hRc; omega
  have hc2 : ns - ns0 + 6 ≤ R.slots := by refine Nat.le_trans ?_ hRs; omega
  exact vx_throwSW C.1 C.2.1 C.2.2.2.2.2.2.2.2.2.1 C.2.2.2.1 hcls hnames (hts _ hk) (hts _ hini) hstr hat hgood hU hN hV (by rw [C.2.2.1]; exact hl.1) d0 d3 d4 d7 d10 (fun x hx => (hout x hx).elim) (by omega) (by omega) hc1 hc2 C.2.2.2.2.2.1
    (fun t hvm hz hq => ⟨⟨α, k, hp, rfl, rfl, (show kRep E t α hh t.heap from ⟨hR.1, hR.2.1, fun j d hj => by
      obtain ⟨x, y1, y2, y3⟩ := hR.2.2 j d hj
      exact ⟨x, y1, y2, (y3.kept (List.prefix_refl _) (hq x y3.lt)).moved hvm⟩⟩)⟩, ⟨Nat.le_trans hV.1 hz, fun q q1 q2 => (hq q (Nat.lt_of_lt_of_le q1 hV.1)).trans (hV.2.1 q q1 q2)⟩⟩)
    hV.2.2 (by dsimp only; omega) (by dsimp only; omega)
end KMORE2
