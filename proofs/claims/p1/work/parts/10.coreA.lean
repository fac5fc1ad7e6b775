/-! ===== the box of a small int; a copy of ints; handlers; calls through an interface ===== -/
section KA
variable {p : Program} {l : Launch} {e : Env} {R : Room} {s : State} {m : MethodId} {args : Array Value} {below : List Frame} {meth : Method} {c : Code}
variable {E : kE} {XX : State → Prop} {σ α0 : List Nat} {cc : ByteArray} {nL nc0 ns0 : Nat} {res : kRes} {pc pc' : Nat} {own : String} {ws : List Cond} {zs : List (String × String × Nat)}
/-- Integer's cache, at the local i: five instructions as one -/
def oBox (i : Nat) : kOp := fun fs => match kget fs.1 i with
  | some (.int x) => bif Nat.ble x.toNatClampNeg 10 && decide (Int32.ofNat x.toNatClampNeg = x) then some (.inl (0, (fs.1, .ref (9 + x.toNatClampNeg) :: fs.2.1, fs.2.2))) else none
  | _ => none
theorem box_ix : ∀ k, k ≤ 10 → (Int32.ofNat k + 128).toNatClampNeg = 128 + k ∧ ¬ (Int32.ofNat k + 128 < 0) := by
  have h : ∀ k : Fin 11, (Int32.ofNat k.val + 128).toNatClampNeg = 128 + k.val ∧ ¬ (Int32.ofNat k.val + 128 < 0) := by decide +kernel
  exact fun k hk => h ⟨k, by omega⟩
theorem ok_box {i ix : Nat} {k : Fin 4} (C : kCx E XX σ zs p l e R s m args below meth c α0 cc nL nc0 ns0 res own ws) (hz : ∃ (b : Nat) (ad : Nat → Nat), va_Z "java/lang/Integer$IntegerCache" "cache" "[Ljava/lang/Integer;" (.ref b) (fun q => kb E ≤ q) s s.heap ∧ va_T (.object "java/lang/Integer") b 256 (fun j => .ref (ad j)) (fun q => kb E ≤ q) s s.heap ∧ ∀ k, k ≤ 10 → σ[9 + k]? = some (ad (128 + k))) (hlink : Cond.fieldLink own ix "java/lang/Integer$IntegerCache" "cache" "[Ljava/lang/Integer;" ∈ ws)
    (d0 : decode cc pc = .ok (.getstatic ix, 3)) (d1 : decode cc (pc + 3) = .ok (.iload_n k, 1)) (hk : (k : Nat) = i) (d2 : decode cc (pc + 4) = .ok (.sipush 128, 3)) (d3 : decode cc (pc + 7) = .ok (.iadd, 1)) (d4 : decode cc (pc + 8) = .ok (.aaload, 1)) : kOK E p l e R s m args below meth c α0 nL nc0 ns0 res pc (kTo (pc + 9)) (oBox i) := by
  intro fs r h
  obtain ⟨L, S, hh⟩ := fs
  unfold oBox at h
  split at h
  · rename_i x hx
    cases hb : (Nat.ble x.toNatClampNeg 10 && decide (Int32.ofNat x.toNatClampNeg = x)) with
    | false => rw [hb] at h; cases h
    | true =>
    rw [hb] at h
    cases h
    simp only [Bool.and_eq_true, decide_eq_true_eq] at hb
    have hx10 := Nat.le_of_ble_eq_true hb.1
    refine ⟨Nat.le_refl _, Nat.le_refl _, fun _ _ k2 => ?_⟩
    intro α H locs ls lv st hp hR hV hL hl hs h1 h2
    obtain ⟨b, ad, hZ, hT, hσ⟩ := hz
    obtain ⟨w, hw1, hw2⟩ := kget_spec hx hL
    cases hw1
    obtain ⟨j1, j2⟩ := box_ix _ hx10
    rw [hb.2] at j1 j2
    have ha2 : α[9 + x.toNatClampNeg]? = some (ad (128 + x.toNatClampNeg)) := k_pre (hσ _ hx10) (List.IsPrefix.trans C.2.2.2.2.2.2.2.2.1 hp)
    refine va_gets C.1 C.2.1 hZ hV C.2.2.2.1 (C.2.2.2.2.1 _ hlink) (fun _ h => h) d0 ?_
    refine lv_iload_n C.1 C.2.1 d1 hk (hl.2.2 (i, .int x) hw2) ?_
    refine lv_sipush C.1 C.2.1 d2 (v := 128) (by decide) ?_
    refine lv_iadd C.1 C.2.1 d3 ?_
    refine vb_tq (v := .ref (ad (128 + x.toNatClampNeg))) C.1 C.2.1 hT hV (fun q => by rcases q with q | q; exact j2 q; rw [j1] at q; omega) (by rw [j1]) d4 ?_
    exact k2 α H locs ls lv _ hp hR hV hL hl (kvS_mk (kv_ref ha2) hs) h1 h2
  · cases h
def isI (v : Value) : Bool := match v with
  | .int _ => true
  | _ => false
/-- System.arraycopy of ints, from 0 to 0 -/
def oCopyI (n : Nat) : kOp := fun fs => match fs.2.1 with
  | .int cnt :: .int dp :: .ref a :: .int sp :: .ref a0 :: S => (match kcell n fs.2.2.1 a0, kcell n fs.2.2.1 a with
      | some q, some u => bif (Nat.beq q.1 100 && Nat.beq u.1 100) && ((decide (dp = 0) && decide (sp = 0)) && (decide (0 ≤ cnt) && ((Nat.ble cnt.toNatClampNeg q.2.length && Nat.ble cnt.toNatClampNeg u.2.length) && ((q.2.take cnt.toNatClampNeg).all isI && Nat.ble (ksz S) 8)))) then
          some (.inl (0, (fs.1, S, (fs.2.2.1.set (a - n) (100, q.2.take cnt.toNatClampNeg ++ u.2.drop cnt.toNatClampNeg), fs.2.2.2)))) else none
      | _, _ => none)
  | _ => none
theorem ok_copyi {n ix : Nat} (C : kCx E XX σ zs p l e R s m args below meth c α0 cc nL nc0 ns0 res own ws) (hn : kn E = n) (h1w : Cond.methodLink own ix arraycopyName ∈ ws) (h2w : Cond.native arraycopyName ∈ ws) (h3w : Cond.static arraycopyName ∈ ws) (h4w : Cond.initialized "java/lang/System" ∈ ws) (hd : decode cc pc = .ok (.invokestatic ix, 3)) : kOK E p l e R s m args below meth c α0 nL nc0 ns0 res pc (kTo (pc + 3)) (oCopyI n) := by
  intro fs r h
  obtain ⟨L, S0, hh, nc, ns⟩ := fs
  unfold oCopyI at h
  split at h
  · rename_i cnt dp a sp a0 S hS
    simp only at hS
    subst hS
    split at h
    · rename_i q u hq hu
      cases hb : ((Nat.beq q.1 100 && Nat.beq u.1 100) && ((decide (dp = 0) && decide (sp = 0)) && (decide (0 ≤ cnt) && ((Nat.ble cnt.toNatClampNeg q.2.length && Nat.ble cnt.toNatClampNeg u.2.length) && ((q.2.take cnt.toNatClampNeg).all isI && Nat.ble (ksz S) 8))))) with
      | false => rw [hb] at h; cases h
      | true =>
      rw [hb] at h
      cases h
      simp only [Bool.and_eq_true, decide_eq_true_eq] at hb
      obtain ⟨⟨b1, b2⟩, ⟨rfl, rfl⟩, b3, ⟨b4, b5⟩, b6, b7⟩ := hb
      have hq1 : q.1 = 100 := Nat.eq_of_beq_eq_true b1
      have hu1 : u.1 = 100 := Nat.eq_of_beq_eq_true b2
      have b4 := Nat.le_of_ble_eq_true b4
      have b5 := Nat.le_of_ble_eq_true b5
      have b7 := Nat.le_of_ble_eq_true b7
      refine ⟨Nat.le_refl _, Nat.le_refl _, fun _ _ k2 => ?_⟩
      intro α H locs ls lv st hp hR hV hL hl hs h1 h2
      obtain ⟨st1, rfl, hs1⟩ := kvS_int hs
      obtain ⟨st2, rfl, hs2⟩ := kvS_int hs1
      obtain ⟨a1, st3, rfl, ha, hs3⟩ := kvS_ref hs2
      obtain ⟨st4, rfl, hs4⟩ := kvS_int hs3
      obtain ⟨a2, st, rfl, ha0, hs5⟩ := kvS_ref hs4
      subst hn
      obtain ⟨g1, g2⟩ := kcell_spec hq
      obtain ⟨f1, f2⟩ := kcell_spec hu
      obtain ⟨hb0, hqt⟩ := hR.at g1 g2 ha0
      obtain ⟨hb1, hut⟩ := hR.at f1 f2 ha
      obtain ⟨cs, c1, c2, ⟨ks, cms, c3, c4, c5⟩, c6, c7⟩ := k_arr (by decide) C hq1 hqt
      obtain ⟨cd, d1, d2, ⟨kd, cmd, d3, d4, d5⟩, d6, d7⟩ := k_arr (by decide) C hu1 hut
      have hcnt : cnt.toInt = (cnt.toNatClampNeg : Int) := by
        have := Int32.le_iff_toInt_le.mp b3
        have hz : (0 : Int32).toInt = 0 := rfl
        show cnt.toInt = ((cnt.toInt.toNat : Nat) : Int)
        omega
      have hval : ∀ i, i < cnt.toNatClampNeg → ∃ x : Int32, q.2[i]? = some (.int x) ∧ cs.slots[i]? = some (.int x) := by
        intro i hi
        have hi2 : i < q.2.length := by omega
        have hm : (q.2.take cnt.toNatClampNeg)[i]? = some q.2[i] := by rw [List.getElem?_take, if_pos hi, List.getElem?_eq_getElem hi2]
        have hall := List.all_eq_true.mp b6 _ (List.mem_of_getElem? hm)
        have hqi := List.getElem?_eq_getElem hi2
        generalize q.2[i] = v at hall hqi
        obtain ⟨w, w1, w2⟩ := c7 i v hqi
        cases v with
        | int x => cases w1; exact ⟨x, hqi, w2⟩
        | _ => cases hall
      intro T hT X
      obtain ⟨vm', X', step⟩ := X.arraycopy C.1 C.2.2.2.1 (C.2.2.2.2.1 _ h1w) (C.2.2.2.2.1 _ h2w) (C.2.2.2.2.1 _ h3w) (C.2.2.2.2.1 _ h4w) (src := a2) (dst := a1) (cs := cs) (cd := cd) (srcPos := 0) (destPos := 0) (n := cnt) (by rw [hT]; exact c1) (by rw [hT]; exact d1)
        (fun _ h => by rw [c2] at h; cases h) (fun _ h => by rw [d2] at h; cases h) (fun h => by rw [c2] at h; cases h) (fun h => by rw [d2] at h; cases h) c3 d3 c4 d4 rfl (by decide) (by decide) (fun h => absurd (Int32.not_le.mpr h) (fun z => z b3))
        (by rw [hcnt, c6]; show ¬ (0 : Int) + _ > _; omega) (by rw [hcnt, d6]; show ¬ (0 : Int) + _ > _; omega)
        (fun vm₁ _ i hi => by
          obtain ⟨x, -, e2⟩ := hval i hi
          have e : cs.slots.getD ((0 : Int32).toNatClampNeg + i) .null = .int x := by
            rw [show (0 : Int32).toNatClampNeg + i = i from Nat.zero_add i, Array.getD_eq_getD_getElem?, e2]
            rfl
          rw [e]
          exact ⟨rfl, trivial⟩)
        (g := F0 m pc ls (.int cnt :: .int 0 :: .ref a1 :: .int 0 :: .ref a2 :: st)) rfl (by rw [C.2.2.1]; exact hl.1) (rest := st) rfl (by rw [C.2.1]; exact hd) (by have := C.2.2.2.2.2.2.2.2.2.2.2.2.1; omega) (by
          have hR2 := C.2.2.2.2.2.2.2.2.2.2.2.2.2
          have hS2 := kvS_ksz hs5
          show 2 * 0 + _ + (nativeFrameWords "java/lang/System" "arraycopy" 5 + 11) ≤ _
          rw [show nativeFrameWords "java/lang/System" "arraycopy" 5 = 7 from by decide]
          omega)
      have hl1 : a1 < H.size := (Array.getElem?_eq_some_iff.mp d1).1
      generalize hC2 : copied cs cd 0 0 cnt = cN at X' step
      have hcN : cN = cd.storeRun 0 (cs.stretch 0 cnt.toNatClampNeg) := by rw [← hC2]; rfl
      obtain ⟨p1, p2, p3, -, -⟩ := Cell.storeRun_facts cd 0 (cs.stretch 0 cnt.toNatClampNeg)
      have hlen : (cs.stretch 0 cnt.toNatClampNeg).length = cnt.toNatClampNeg := by simp [Cell.stretch]
      have hheap : ((T.setVm vm').setCell a1 cN).heap = H.setIfInBounds a1 cN := by rw [← hT]; rfl
      have oq : ∀ z : Nat, z ≠ a1 → (H.setIfInBounds a1 cN)[z]? = H[z]? := fun z hz => by simp [Array.getElem?_setIfInBounds, Ne.symm hz]
      have hsz : (H.setIfInBounds a1 cN).size = H.size := by simp
      have hat : kAt E s α (H.setIfInBounds a1 cN) a1 (100, q.2.take cnt.toNatClampNeg ++ u.2.drop cnt.toNatClampNeg) := by
        refine ⟨cN, by rw [Array.getElem?_setIfInBounds_self_of_lt hl1], by rw [hcN, p2]; exact d2, Or.inr ⟨(show 100 ≤ 100 from by decide), ⟨kd, cmd, by rw [hcN, p1]; exact d3, d4, d5.1, (fun h => by rw [hcN, p1]; exact d5.2.1 h), d5.2.2⟩, ?_, fun j v hj => ?_⟩⟩
        · rw [hcN, p3, d6]
          show u.2.length = (q.2.take cnt.toNatClampNeg ++ u.2.drop cnt.toNatClampNeg).length
          rw [List.length_append, List.length_take, List.length_drop]
          omega
        · rw [hcN, Cell.storeRun_get _ _ _ _ (by rw [hlen, d6]; omega), hlen, Nat.zero_add]
          have hj2 : (q.2.take cnt.toNatClampNeg ++ u.2.drop cnt.toNatClampNeg)[j]? = some v := hj
          by_cases hjc : j < cnt.toNatClampNeg
          · rw [if_pos ⟨Nat.zero_le _, hjc⟩]
            rw [List.getElem?_append_left (by rw [List.length_take]; omega), List.getElem?_take, if_pos hjc] at hj2
            obtain ⟨x, x1, x2⟩ := hval j hjc
            rw [x1] at hj2
            cases hj2
            refine ⟨.int x, rfl, ?_⟩
            unfold Cell.stretch
            rw [Nat.sub_zero, List.getElem?_map, List.getElem?_range hjc, Option.map_some, Nat.zero_add, Array.getD_eq_getD_getElem?, x2]
            rfl
          · rw [if_neg (fun h => hjc h.2)]
            rw [List.getElem?_append_right (by rw [List.length_take]; omega), List.length_take, List.getElem?_drop, show cnt.toNatClampNeg + (j - min cnt.toNatClampNeg q.2.length) = j by omega] at hj2
            exact d7 j v hj2
      obtain ⟨t, t1, t2⟩ := k2 α (H.setIfInBounds a1 cN) _ ls lv st hp (hR.put f1 f2 ha hat oq) ⟨by rw [hsz]; exact hV.1, fun z y1 y2 => by
          rw [oq z (fun e => y2 (by rw [e]; exact hb1))]
          exact hV.2.1 z y1 y2, fun z hz => by
          rcases List.mem_append.mp hz with h | h
          · exact hV.2.2 z h
          · obtain ⟨y, -, hy⟩ := List.mem_map.mp h
            rw [← hy]
            exact hb1⟩ hL hl hs5 h1 h2 _ hheap X'
      exact ⟨t, step t t1, t2⟩
    · cases h
  · cases h
end KA
