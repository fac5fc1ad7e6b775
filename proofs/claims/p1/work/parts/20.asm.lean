/-! ===== what holds at the law's entry; the claim out of the law's function ===== -/
theorem in_places {α : Type} {big L : List α} (ps : List Nat) (h : L = ps.filterMap (fun i => big[i]?)) : ∀ w ∈ L, w ∈ big := by
  intro w hw
  rw [h] at hw
  obtain ⟨i, -, hi⟩ := List.mem_filterMap.mp hw
  exact List.mem_of_getElem? hi
theorem ag_sup {a b : String} {u U : State} (hvm : u.vm.Alike U.vm) (h : va_Nw (.superclass a b) u) : va_Nw (.superclass a b) U := by
  simp only [va_Nw, Cond.before, Cond.holds, Cond.value] at h ⊢
  rw [hvm.findClass, hvm.findClass]
  cases hc : u.vm.findClass a with
  | none => rw [hc] at h; simp at h
  | some c =>
    cases hp : u.vm.findClass b with
    | none => rw [hc, hp] at h; simp at h
    | some p =>
      rw [hc, hp] at h
      dsimp only at h ⊢
      cases hk : u.vm.classes[c]? with
      | none => rw [hk] at h; simp at h
      | some k =>
        cases hkp : u.vm.classes[p]? with
        | none => rw [hk, hkp] at h; simp at h
        | some kp =>
          rw [hk, hkp] at h
          obtain ⟨k', e1, e2⟩ := hvm.2.2 _ _ hk
          obtain ⟨kp', e3, e4⟩ := hvm.2.2 _ _ hkp
          rw [e1, e3, e2, e4]
          exact h
theorem ag_aoa {t : FieldType} {u U : State} (hvm : u.vm.Alike U.vm) (h : va_Nw (.arrayOver t) u) : va_Nw (.arrayOver t) U := by
  show (Cond.arrayOver t).before #[] (u.setVm U.vm) = true
  rw [Cond.arrayOver_setVmC hvm]
  exact h
/-- a word that rides on while the tables are alike -/
def kRide (w : Cond) : Prop := ∀ u U : State, u.WarmedH U.vm → va_Nw w u → va_Nw w U
theorem rd_0 : kRide (.fieldLinkNest "Bijectory$Orders" 9 "Bijectory" "ORDER_COUNTS" "[I" "Bijectory") := fun u U hW h => va_Nw.warmF hW h
theorem rd_1 : kRide (.fieldLinkNest "Bijectory$Orders" 37 "Bijectory" "TENS" "[I" "Bijectory") := fun u U hW h => va_Nw.warmF hW h
theorem rd_2 : kRide (.fieldLinkNest "Bijectory$Trees" 37 "Bijectory" "TENS" "[I" "Bijectory") := fun u U hW h => va_Nw.warmF hW h
theorem rd_3 : kRide (.fieldLinkNest "Bijectory$Realm" 9 "Bijectory" "PATH_COUNTS" "[I" "Bijectory") := fun u U hW h => va_Nw.warmF hW h
theorem rd_4 : kRide (.fieldLinkNest "Bijectory$Realm" 25 "Bijectory" "ORDER_COUNTS" "[I" "Bijectory") := fun u U hW h => va_Nw.warmF hW h
theorem rd_5 : kRide (.arrayOver (.array .int)) := fun u U hW h => ag_aoa hW.alike h
theorem rd_6 : kRide (.fieldLinkNest "Bijectory$Realm" 82 "Bijectory" "STEP_FROM" "[I" "Bijectory") := fun u U hW h => va_Nw.warmF hW h
theorem rd_7 : kRide (.fieldLinkNest "Bijectory$Realm" 85 "Bijectory" "STEP_TO" "[I" "Bijectory") := fun u U hW h => va_Nw.warmF hW h
theorem rd_8 : kRide (.methodLinkNest "Bijectory$Realm" 112 yX3_graft "Bijectory") := fun u U hW h => va_Nw.warmM hW h
theorem rd_9 : kRide (.methodLinkNest "Bijectory$Realm" 115 yX7_mirror "Bijectory") := fun u U hW h => va_Nw.warmM hW h
theorem rd_10 : kRide (.methodLinkNest "Bijectory$Realm" 126 yX7_label "Bijectory") := fun u U hW h => va_Nw.warmM hW h
theorem rd_11 : kRide (.methodLinkNest "Bijectory$Realm" 129 yX2_shape "Bijectory") := fun u U hW h => va_Nw.warmM hW h
theorem rd_12 : kRide (.methodLinkNest "Bijectory$Realm" 144 yX7_valueOf "Bijectory") := fun u U hW h => va_Nw.warmM hW h
theorem rd_13 : kRide (.fieldLinkNest "Bijectory$Chart" 19 "Bijectory" "STEP_FROM" "[I" "Bijectory") := fun u U hW h => va_Nw.warmF hW h
theorem rd_14 : kRide (.fieldLinkNest "Bijectory$Chart" 31 "Bijectory" "STEP_TO" "[I" "Bijectory") := fun u U hW h => va_Nw.warmF hW h
theorem rd_15 : kRide (.fieldLinkNest "Bijectory$Survey" 9 "Bijectory" "ORDER_COUNTS" "[I" "Bijectory") := fun u U hW h => va_Nw.warmF hW h
theorem rd_16 : kRide (.arrayOver (.object "Bijectory$Realm")) := fun u U hW h => ag_aoa hW.alike h
theorem rd_17 : kRide (.arrayOver (.object "Bijectory$Chart")) := fun u U hW h => ag_aoa hW.alike h
theorem rd_18 : kRide (.arrayOver (.object "Bijectory$Walker")) := fun u U hW h => ag_aoa hW.alike h
theorem rd_19 : kRide (.arrayOver (.object "Bijectory$Claim")) := fun u U hW h => ag_aoa hW.alike h
theorem rd_20 : kRide (.fieldLinkNest "java/util/ArrayList$Itr" 28 "java/util/ArrayList" "size" "I" "java/util/ArrayList") := fun u U hW h => va_Nw.warmF hW h
theorem rd_21 : kRide (.arrayOver (.object "java/lang/Object")) := fun u U hW h => ag_aoa hW.alike h
theorem rd_22 : kRide (.castable "java/lang/Integer" "java/lang/Object") := fun u U hW h => va_Nw.warmC hW h
theorem rd_23 : kRide (.castable "java/lang/IllegalArgumentException" "java/lang/IllegalArgumentException") := fun u U hW h => va_Nw.warmC hW h
theorem rd_24 : kRide (.castable "java/lang/IllegalStateException" "java/lang/IllegalStateException") := fun u U hW h => va_Nw.warmC hW h
theorem rd_25 : kRide (.castable "java/lang/IndexOutOfBoundsException" "java/lang/IndexOutOfBoundsException") := fun u U hW h => va_Nw.warmC hW h
theorem rd_26 : kRide (.superclass "java/lang/Throwable" "java/lang/Object") := fun u U hW h => ag_sup hW.alike h
theorem rd_27 : kRide (.declares ⟨"java/lang/RuntimeException", "<init>", "(Ljava/lang/String;)V"⟩) := fun u U hW h => va_Nw.warmD hW h
theorem rd_28 : kRide (.declares ⟨"java/lang/Exception", "<init>", "(Ljava/lang/String;)V"⟩) := fun u U hW h => va_Nw.warmD hW h
theorem rd_29 : kRide (.declares ⟨"java/lang/Throwable", "<init>", "(Ljava/lang/String;)V"⟩) := fun u U hW h => va_Nw.warmD hW h
theorem rd_30 : kRide (.castable "java/util/ArrayList" "java/lang/Object") := fun u U hW h => va_Nw.warmC hW h
theorem rd_31 : kRide (.castable "BijectoryModel$Walker" "java/lang/Object") := fun u U hW h => va_Nw.warmC hW h
theorem rd_all : ∀ w ∈ kxW, kRide w := List.forall_mem_cons.mpr ⟨rd_0, List.forall_mem_cons.mpr ⟨rd_1, List.forall_mem_cons.mpr ⟨rd_2, List.forall_mem_cons.mpr ⟨rd_3, List.forall_mem_cons.mpr ⟨rd_4, List.forall_mem_cons.mpr ⟨rd_5, List.forall_mem_cons.mpr ⟨rd_6, List.forall_mem_cons.mpr ⟨rd_7, List.forall_mem_cons.mpr ⟨rd_8, List.forall_mem_cons.mpr ⟨rd_9, List.forall_mem_cons.mpr ⟨rd_10, List.forall_mem_cons.mpr ⟨rd_11, List.forall_mem_cons.mpr ⟨rd_12, List.forall_mem_cons.mpr ⟨rd_13, List.forall_mem_cons.mpr ⟨rd_14, List.forall_mem_cons.mpr ⟨rd_15, List.forall_mem_cons.mpr ⟨rd_16, List.forall_mem_cons.mpr ⟨rd_17, List.forall_mem_cons.mpr ⟨rd_18, List.forall_mem_cons.mpr ⟨rd_19, List.forall_mem_cons.mpr ⟨rd_20, List.forall_mem_cons.mpr ⟨rd_21, List.forall_mem_cons.mpr ⟨rd_22, List.forall_mem_cons.mpr ⟨rd_23, List.forall_mem_cons.mpr ⟨rd_24, List.forall_mem_cons.mpr ⟨rd_25, List.forall_mem_cons.mpr ⟨rd_26, List.forall_mem_cons.mpr ⟨rd_27, List.forall_mem_cons.mpr ⟨rd_28, List.forall_mem_cons.mpr ⟨rd_29, List.forall_mem_cons.mpr ⟨rd_30, List.forall_mem_cons.mpr ⟨rd_31, fun _ h => by cases h⟩⟩⟩⟩⟩⟩⟩⟩⟩⟩⟩⟩⟩⟩⟩⟩⟩⟩⟩⟩⟩⟩⟩⟩⟩⟩⟩⟩⟩⟩⟩⟩
theorem kXX_stab (b : Nat) (σ : List Nat) : kStab b (kXX b σ) := by
  intro u U h hW hz hb hq
  have hvm := hW.alike
  obtain ⟨h1, h2, h3, h4, ⟨a8, s8, z8⟩, z9, ⟨bb, ad, z10, t10, s10⟩, ho, hnc, hfw⟩ := h
  have hk : ∀ a : Nat, a < u.heap.size → ¬ (b ≤ a) → U.heap[a]? = u.heap[a]? := fun a _ h => hq a (by omega)
  exact ⟨fun w hw => rd_all w hw u U hW (h1 w hw), fun q hq2 => by obtain ⟨sa, h6⟩ := h2 q hq2; exact ⟨sa, h6.warm hW⟩, (h3.moved hvm).kept hk, (h4.moved hvm).kept hk, ⟨a8, s8, (z8.moved hvm).kept hk⟩, (z9.moved hvm).kept hk, ⟨bb, ad, (z10.moved hvm).kept hk, (t10.moved hvm).kept hk, s10⟩, fun v a g1 g2 g3 => ((ho v a g1 g2 g3).moved hvm).kept hk, fun q hq => (hnc q hq).moved hvm, hfw.moved (by decide) hvm⟩
set_option maxRecDepth 100000 in
theorem kxW_in : ∀ w ∈ kxW, w ∈ lw_tbl := in_places [193, 277, 263, 145, 149, 151, 202, 204, 221, 234, 259, 266, 314, 657, 659, 113, 106, 131, 133, 135, 979, 1141, 1582, 387, 638, 463, 407, 389, 391, 393, 1586, 1591] (by decide +kernel)
theorem kxW_on : ∀ w ∈ kxW, ∀ (a0 : Array Value) (s : State), w.before a0 s = true → va_Nw w s := List.forall_mem_cons.mpr ⟨fun a s h => va_Nw.of rfl h, List.forall_mem_cons.mpr ⟨fun a s h => va_Nw.of rfl h, List.forall_mem_cons.mpr ⟨fun a s h => va_Nw.of rfl h, List.forall_mem_cons.mpr ⟨fun a s h => va_Nw.of rfl h, List.forall_mem_cons.mpr ⟨fun a s h => va_Nw.of rfl h, List.forall_mem_cons.mpr ⟨fun a s h => h, List.forall_mem_cons.mpr ⟨fun a s h => va_Nw.of rfl h, List.forall_mem_cons.mpr ⟨fun a s h => va_Nw.of rfl h, List.forall_mem_cons.mpr ⟨fun a s h => va_Nw.of rfl h, List.forall_mem_cons.mpr ⟨fun a s h => va_Nw.of rfl h, List.forall_mem_cons.mpr ⟨fun a s h => va_Nw.of rfl h, List.forall_mem_cons.mpr ⟨fun a s h => va_Nw.of rfl h, List.forall_mem_cons.mpr ⟨fun a s h => va_Nw.of rfl h, List.forall_mem_cons.mpr ⟨fun a s h => va_Nw.of rfl h, List.forall_mem_cons.mpr ⟨fun a s h => va_Nw.of rfl h, List.forall_mem_cons.mpr ⟨fun a s h => va_Nw.of rfl h, List.forall_mem_cons.mpr ⟨fun a s h => h, List.forall_mem_cons.mpr ⟨fun a s h => h, List.forall_mem_cons.mpr ⟨fun a s h => h, List.forall_mem_cons.mpr ⟨fun a s h => h, List.forall_mem_cons.mpr ⟨fun a s h => va_Nw.of rfl h, List.forall_mem_cons.mpr ⟨fun a s h => h, List.forall_mem_cons.mpr ⟨fun a s h => va_Nw.of rfl h, List.forall_mem_cons.mpr ⟨fun a s h => va_Nw.of rfl h, List.forall_mem_cons.mpr ⟨fun a s h => va_Nw.of rfl h, List.forall_mem_cons.mpr ⟨fun a s h => va_Nw.of rfl h, List.forall_mem_cons.mpr ⟨fun a s h => va_Nw.of rfl h, List.forall_mem_cons.mpr ⟨fun a s h => va_Nw.of rfl h, List.forall_mem_cons.mpr ⟨fun a s h => va_Nw.of rfl h, List.forall_mem_cons.mpr ⟨fun a s h => va_Nw.of rfl h, List.forall_mem_cons.mpr ⟨fun a s h => va_Nw.of rfl h, List.forall_mem_cons.mpr ⟨fun a s h => va_Nw.of rfl h, fun _ h => by cases h⟩⟩⟩⟩⟩⟩⟩⟩⟩⟩⟩⟩⟩⟩⟩⟩⟩⟩⟩⟩⟩⟩⟩⟩⟩⟩⟩⟩⟩⟩⟩⟩
set_option maxRecDepth 100000 in
theorem kStr_in : ∀ w ∈ kStr.map (fun q => Cond.stringRef q.1 q.2.1 q.2.2), w ∈ lw_tbl := in_places [623, 645, 709, 710, 713, 727, 728, 766, 808, 809, 811, 879, 610, 514, 600, 426, 635, 484, 493, 569, 513, 599, 470] (by decide +kernel)
abbrev kFlat : List Cond := flatC (Jvm.Cond.and given_1 narrow_1)
set_option maxRecDepth 100000 in
theorem kStr_ex : ∀ w ∈ kStr.map (fun q => Cond.exactly (.string q.1 q.2.1) "java/lang/String"), w ∈ kFlat := in_places [497, 563, 595, 631, 670, 736, 768, 808, 848, 891, 954, 997, 465, 343, 435, 208, 529, 257, 283, 370, 315, 401, 230] (by decide +kernel)
theorem kE0_at {a0 : Array Value} {s : State} (hts : ∀ w ∈ lw_tbl, w.before a0 s = true) (hfl : ∀ w ∈ kFlat, w.before a0 s = true) : ∃ t : Nat, va_T (.object "java/lang/Object") t 0 (fun _ => .null) (fun q => s.heap.size ≤ q) s s.heap ∧ va_Z "java/util/ArrayList" "DEFAULTCAPACITY_EMPTY_ELEMENTDATA" "[Ljava/lang/Object;" (.ref t) (fun q => s.heap.size ≤ q) s s.heap := by
  have hA : ∀ a : Nat, a < s.heap.size → ¬ (fun q => s.heap.size ≤ q) a := fun a h h2 => Nat.lt_irrefl _ (Nat.lt_of_lt_of_le h h2)
  obtain ⟨t, h1, h2⟩ := va_Tof (N := 0) (f := fun _ => .null) (by decide) (hfl (.arrayOf (.static "java/util/ArrayList" "DEFAULTCAPACITY_EMPTY_ELEMENTDATA" "[Ljava/lang/Object;") (.object "java/lang/Object")) (List.mem_of_getElem? (i := 65) (by decide +kernel))) (va_eqt (hfl (.eq (.length (.static "java/util/ArrayList" "DEFAULTCAPACITY_EMPTY_ELEMENTDATA" "[Ljava/lang/Object;")) (.int 0)) (List.mem_of_getElem? (i := 67) (by decide +kernel)))) (fun j hj => absurd hj (Nat.not_lt_zero _)) hA
  exact ⟨t, h2, va_Zref (hts (.laysStatic "java/util/ArrayList" "DEFAULTCAPACITY_EMPTY_ELEMENTDATA" "[Ljava/lang/Object;") (List.mem_of_getElem? (i := 976) (by decide +kernel))) (hts (.initialized "java/util/ArrayList") (List.mem_of_getElem? (i := 76) (by decide +kernel))) h1 hA⟩
theorem kBx_at {a0 : Array Value} {s : State} (hts : ∀ w ∈ lw_tbl, w.before a0 s = true) (hfl : ∀ w ∈ kFlat, w.before a0 s = true) : ∃ (bb : Nat) (ad : Nat → Nat), va_Z "java/lang/Integer$IntegerCache" "cache" "[Ljava/lang/Integer;" (.ref bb) (fun q => s.heap.size ≤ q) s s.heap ∧ va_T (.object "java/lang/Integer") bb 256 (fun j => .ref (ad j)) (fun q => s.heap.size ≤ q) s s.heap ∧ vb_C ad (fun q => s.heap.size ≤ q) s s.heap := by
  have hA : ∀ a : Nat, a < s.heap.size → ¬ (fun q => s.heap.size ≤ q) a := fun a h h2 => Nat.lt_irrefl _ (Nat.lt_of_lt_of_le h h2)
  obtain ⟨ad, hC, hel⟩ := vb_Cof (st := .static "java/lang/Integer$IntegerCache" "cache" "[Ljava/lang/Integer;") rfl (va_eqt (hfl (.eq (.length (.static "java/lang/Integer$IntegerCache" "cache" "[Ljava/lang/Integer;")) (.int 256)) (List.mem_of_getElem? (i := 71) (by decide +kernel)))) (hfl (.all (.static "java/lang/Integer$IntegerCache" "cache" "[Ljava/lang/Integer;") (.and (.exactly (.elem (.static "java/lang/Integer$IntegerCache" "cache" "[Ljava/lang/Integer;") (.index 0)) "java/lang/Integer") (.eq (.field (.elem (.static "java/lang/Integer$IntegerCache" "cache" "[Ljava/lang/Integer;") (.index 0)) "java/lang/Integer" "value" "I") (.sub (.index 0) (.int 128))))) (List.mem_of_getElem? (i := 72) (by decide +kernel))) hA
  obtain ⟨t, h1, h2⟩ := va_Tof (N := 256) (f := fun j => .ref (ad j)) (by decide) (hfl (.arrayOf (.static "java/lang/Integer$IntegerCache" "cache" "[Ljava/lang/Integer;") (.object "java/lang/Integer")) (List.mem_of_getElem? (i := 70) (by decide +kernel))) (va_eqt (hfl (.eq (.length (.static "java/lang/Integer$IntegerCache" "cache" "[Ljava/lang/Integer;")) (.int 256)) (List.mem_of_getElem? (i := 71) (by decide +kernel)))) hel hA
  exact ⟨t, ad, va_Zref (hts (.laysStatic "java/lang/Integer$IntegerCache" "cache" "[Ljava/lang/Integer;") (List.mem_of_getElem? (i := 1077) (by decide +kernel))) (hts (.initialized "java/lang/Integer$IntegerCache") (List.mem_of_getElem? (i := 86) (by decide +kernel))) h1 hA, h2, hC⟩
theorem kXX_at {a0 : Array Value} {s : State} (hts : ∀ w ∈ lw_tbl, w.before a0 s = true) (hfl : ∀ w ∈ kFlat, w.before a0 s = true) {σ : List Nat} {e0 bb : Nat} {ad : Nat → Nat} (h8 : σ[8]? = some e0) (hE0 : va_Z "java/util/ArrayList" "DEFAULTCAPACITY_EMPTY_ELEMENTDATA" "[Ljava/lang/Object;" (.ref e0) (fun q => s.heap.size ≤ q) s s.heap) (hbb : va_Z "java/lang/Integer$IntegerCache" "cache" "[Ljava/lang/Integer;" (.ref bb) (fun q => s.heap.size ≤ q) s s.heap) (hTb : va_T (.object "java/lang/Integer") bb 256 (fun j => .ref (ad j)) (fun q => s.heap.size ≤ q) s s.heap) (hC : vb_C ad (fun q => s.heap.size ≤ q) s s.heap) (hσ : ∀ k, k ≤ 10 → σ[9 + k]? = some (ad (128 + k))) : kXX s.heap.size σ s := by
  have hA : ∀ a : Nat, a < s.heap.size → ¬ (fun q => s.heap.size ≤ q) a := fun a h h2 => Nat.lt_irrefl _ (Nat.lt_of_lt_of_le h h2)
  refine ⟨fun w hw => kxW_on w hw a0 s (hts w (kxW_in w hw)), fun q hq => ?_, ?_, ?_, ⟨e0, h8, hE0⟩, ?_, ⟨bb, ad, hbb, hTb, hσ⟩, fun v a g1 g2 g3 => ?_, ?_, ?_⟩
  · have h1 := hts _ (kStr_in _ (List.mem_map.mpr ⟨q, hq, rfl⟩))
    have h2 := hfl _ (kStr_ex _ (List.mem_map.mpr ⟨q, hq, rfl⟩))
    obtain ⟨a, c, cA, kA, q1, -⟩ := Cond.exactly_spec (args := a0) (first := s) (o := none) (s := s) (idx := []) h2
    exact ⟨a, vk_R.of h1 q1⟩
  · exact vx_Zqof (hts (.laysStatic "java/lang/Throwable" "UNASSIGNED_STACK" "[Ljava/lang/StackTraceElement;") (List.mem_of_getElem? (i := 412) (by decide +kernel))) (hts (.initialized "java/lang/Throwable") (List.mem_of_getElem? (i := 78) (by decide +kernel))) (hfl (.isRef (.static "java/lang/Throwable" "UNASSIGNED_STACK" "[Ljava/lang/StackTraceElement;")) (List.mem_of_getElem? (i := 62) (by decide +kernel))) hA
  · exact vx_Zqof (hts (.laysStatic "java/lang/Throwable" "SUPPRESSED_SENTINEL" "Ljava/util/List;") (List.mem_of_getElem? (i := 414) (by decide +kernel))) (hts (.initialized "java/lang/Throwable") (List.mem_of_getElem? (i := 78) (by decide +kernel))) (hfl (.isRef (.static "java/lang/Throwable" "SUPPRESSED_SENTINEL" "Ljava/util/List;")) (List.mem_of_getElem? (i := 63) (by decide +kernel))) hA
  · exact va_Zof (hts (.laysStatic "java/lang/Integer$IntegerCache" "high" "I") (List.mem_of_getElem? (i := 1075) (by decide +kernel))) (hts (.initialized "java/lang/Integer$IntegerCache") (List.mem_of_getElem? (i := 86) (by decide +kernel))) (va_eqi (hfl (.eq (.static "java/lang/Integer$IntegerCache" "high" "I") (.int 127)) (List.mem_of_getElem? (i := 68) (by decide +kernel)))) hA
  · obtain ⟨k, rfl⟩ : ∃ k, v = 9 + k := ⟨v - 9, by omega⟩
    cases (hσ k (by omega)).symm.trans g3
    exact hC.1 _ (by omega)
  · exact (show ∀ q ∈ kNc, va_Nc q.1 q.2 s from List.forall_mem_cons.mpr ⟨va_Nc.of (hfl (.not (.castable "java/lang/IllegalStateException" "java/lang/IllegalArgumentException")) (List.mem_of_getElem? (i := 106) (by decide +kernel))), List.forall_mem_cons.mpr ⟨va_Nc.of (hfl (.not (.castable "java/lang/IllegalStateException" "java/lang/IndexOutOfBoundsException")) (List.mem_of_getElem? (i := 135) (by decide +kernel))), List.forall_mem_cons.mpr ⟨va_Nc.of (hfl (.not (.castable "java/lang/IllegalArgumentException" "java/lang/IndexOutOfBoundsException")) (List.mem_of_getElem? (i := 134) (by decide +kernel))), fun _ h => by cases h⟩⟩⟩)
  · exact va_Fw.of (hts (.declares ⟨"java/util/Iterator", "hasNext", "()Z"⟩) (List.mem_of_getElem? (i := 1201) (by decide +kernel))) (hts (.interfaceMethod "java/util/Iterator" "java/util/Iterator" "hasNext" "()Z") (List.mem_of_getElem? (i := 1200) (by decide +kernel))) (hts (.publicMethod yJx35411_hasNext_aae02) (List.mem_of_getElem? (i := 1206) (by decide +kernel))) (hts (.unhidden "java/util/ArrayList$Itr" "hasNext" "()Z") (List.mem_of_getElem? (i := 1204) (by decide +kernel))) (hts (.castable "java/util/ArrayList$Itr" "java/util/Iterator") (List.mem_of_getElem? (i := 1202) (by decide +kernel)))
theorem kKn_at {a0 : Array Value} {s : State} (hts : ∀ w ∈ lw_tbl, w.before a0 s = true) : ∃ (dC : Nat → ClassId) (dI : Nat → Nat → Nat), ∀ (k : Nat) (q : vw_C), kCl[k]? = some q → u_Kn s q.1 q.2.1 q.2.2 (dC k) (dI k) := by
  obtain ⟨c0, i0, h0⟩ := u_known (C := RJ6) (T := TJ6) (N := 1) (n := 1) hts (in_places [1088] (by decide +kernel)) (hts (.instantiable "java/lang/Integer" 1) (List.mem_of_getElem? (i := 1079) (by decide +kernel)))
  obtain ⟨c1, i1, h1⟩ := u_known (C := RJx35411) (T := TJx35411) (N := 4) (n := 4) hts (in_places [1189, 1191, 1193, 1195] (by decide +kernel)) (hts (.instantiable "java/util/ArrayList$Itr" 4) (List.mem_of_getElem? (i := 1180) (by decide +kernel)))
  obtain ⟨c2, i2, h2⟩ := u_known (C := RJx4a65c) (T := TJx4a65c) (N := 3) (n := 3) hts (in_places [989, 985, 987] (by decide +kernel)) (hts (.instantiable "java/util/ArrayList" 3) (List.mem_of_getElem? (i := 964) (by decide +kernel)))
  obtain ⟨c3, i3, h3⟩ := u_known (C := RX0) (T := TX0) (N := 10) (n := 10) hts (in_places [680, 682, 684, 686, 688, 690, 692, 694, 696, 698] (by decide +kernel)) (hts (.instantiable "Bijectory$Chart" 10) (List.mem_of_getElem? (i := 652) (by decide +kernel)))
  obtain ⟨c4, i4, h4⟩ := u_known (C := RX1) (T := TX1) (N := 5) (n := 5) hts (in_places [782, 784, 786, 788, 790] (by decide +kernel)) (hts (.instantiable "Bijectory$Claim" 5) (List.mem_of_getElem? (i := 767) (by decide +kernel)))
  obtain ⟨c5, i5, h5⟩ := u_known (C := RX4) (T := TX4) (N := 6) (n := 6) hts (in_places [160, 162, 164, 166, 168, 170] (by decide +kernel)) (hts (.instantiable "Bijectory$Realm" 6) (List.mem_of_getElem? (i := 140) (by decide +kernel)))
  obtain ⟨c6, i6, h6⟩ := u_known (C := RX6) (T := TX6) (N := 2) (n := 2) hts (in_places [123, 125] (by decide +kernel)) (hts (.instantiable "Bijectory$Survey" 2) (List.mem_of_getElem? (i := 108) (by decide +kernel)))
  obtain ⟨c7, i7, h7⟩ := u_known (C := RX8) (T := TX8) (N := 6) (n := 6) hts (in_places [746, 748, 750, 752, 754, 756] (by decide +kernel)) (hts (.instantiable "Bijectory$Walker" 6) (List.mem_of_getElem? (i := 729) (by decide +kernel)))
  obtain ⟨c8, i8, h8⟩ := u_known (C := RX9) (T := TX9) (N := 11) (n := 11) hts (in_places [348, 350, 352, 354, 356, 358, 360, 362, 364, 366, 368] (by decide +kernel)) (hts (.instantiable "Bijectory" 11) (List.mem_of_getElem? (i := 98) (by decide +kernel)))
  obtain ⟨c9, i9, h9⟩ := u_known (C := RX10) (T := TX10) (N := 5) (n := 5) hts (in_places [1295, 1297, 1299, 1301, 1303] (by decide +kernel)) (hts (.instantiable "BijectoryModel$Claim" 5) (List.mem_of_getElem? (i := 1282) (by decide +kernel)))
  obtain ⟨c10, i10, h10⟩ := u_known (C := RX11) (T := TX11) (N := 6) (n := 6) hts (in_places [1262, 1264, 1266, 1268, 1270, 1272] (by decide +kernel)) (hts (.instantiable "BijectoryModel$Walker" 6) (List.mem_of_getElem? (i := 1247) (by decide +kernel)))
  obtain ⟨c11, i11, h11⟩ := u_known (C := RX12) (T := TX12) (N := 11) (n := 11) hts (in_places [1017, 1019, 1021, 1023, 1025, 1027, 1029, 1031, 1033, 1035, 1037] (by decide +kernel)) (hts (.instantiable "BijectoryModel" 11) (List.mem_of_getElem? (i := 957) (by decide +kernel)))
  refine ⟨fun k => if k = 0 then c0 else if k = 1 then c1 else if k = 2 then c2 else if k = 3 then c3 else if k = 4 then c4 else if k = 5 then c5 else if k = 6 then c6 else if k = 7 then c7 else if k = 8 then c8 else if k = 9 then c9 else if k = 10 then c10 else c11, fun k => if k = 0 then i0 else if k = 1 then i1 else if k = 2 then i2 else if k = 3 then i3 else if k = 4 then i4 else if k = 5 then i5 else if k = 6 then i6 else if k = 7 then i7 else if k = 8 then i8 else if k = 9 then i9 else if k = 10 then i10 else i11, ?_⟩
  intro k q hq
  match k, hq with
  | 0, hq => cases hq; exact h0
  | 1, hq => cases hq; exact h1
  | 2, hq => cases hq; exact h2
  | 3, hq => cases hq; exact h3
  | 4, hq => cases hq; exact h4
  | 5, hq => cases hq; exact h5
  | 6, hq => cases hq; exact h6
  | 7, hq => cases hq; exact h7
  | 8, hq => cases hq; exact h8
  | 9, hq => cases hq; exact h9
  | 10, hq => cases hq; exact h10
  | 11, hq => cases hq; exact h11
  | k + 12, hq => simp [kCl] at hq
theorem kT_at0 {a0 : Array Value} {s : State} (hts : ∀ w ∈ lw_tbl, w.before a0 s = true) (hfl : ∀ w ∈ kFlat, w.before a0 s = true) : ∃ t : Nat, va_T .int t 11 (fun j => .int (([0, 0, 1, 1, 0, 0, 1, 2, 2, 2, 2] : List Int32).getD j 0)) (fun q => s.heap.size ≤ q) s s.heap ∧ va_Z "Bijectory" "STEP_FROM" "[I" (.ref t) (fun q => s.heap.size ≤ q) s s.heap := by
  have hA : ∀ a : Nat, a < s.heap.size → ¬ (fun q => s.heap.size ≤ q) a := fun a h h2 => Nat.lt_irrefl _ (Nat.lt_of_lt_of_le h h2)
  have hel : ∀ j : Nat, j < 11 → (Term.elem (.static "Bijectory" "STEP_FROM" "[I") (.int (Int32.ofNat j))).eval a0 s none [] s = some (.int (([0, 0, 1, 1, 0, 0, 1, 2, 2, 2, 2] : List Int32).getD j 0)) := lt_s (lt_s (lt_s (lt_s (lt_s (lt_s (lt_s (lt_s (lt_s (lt_s (lt_s (lt_0) (va_eqt (hfl (.eq (.elem (.static "Bijectory" "STEP_FROM" "[I") (.int 0)) (.int 0)) (List.mem_of_getElem? (i := 27) (by decide +kernel))))) (va_eqt (hfl (.eq (.elem (.static "Bijectory" "STEP_FROM" "[I") (.int 1)) (.int 0)) (List.mem_of_getElem? (i := 28) (by decide +kernel))))) (va_eqt (hfl (.eq (.elem (.static "Bijectory" "STEP_FROM" "[I") (.int 2)) (.int 1)) (List.mem_of_getElem? (i := 29) (by decide +kernel))))) (va_eqt (hfl (.eq (.elem (.static "Bijectory" "STEP_FROM" "[I") (.int 3)) (.int 1)) (List.mem_of_getElem? (i := 30) (by decide +kernel))))) (va_eqt (hfl (.eq (.elem (.static "Bijectory" "STEP_FROM" "[I") (.int 4)) (.int 0)) (List.mem_of_getElem? (i := 31) (by decide +kernel))))) (va_eqt (hfl (.eq (.elem (.static "Bijectory" "STEP_FROM" "[I") (.int 5)) (.int 0)) (List.mem_of_getElem? (i := 32) (by decide +kernel))))) (va_eqt (hfl (.eq (.elem (.static "Bijectory" "STEP_FROM" "[I") (.int 6)) (.int 1)) (List.mem_of_getElem? (i := 33) (by decide +kernel))))) (va_eqt (hfl (.eq (.elem (.static "Bijectory" "STEP_FROM" "[I") (.int 7)) (.int 2)) (List.mem_of_getElem? (i := 34) (by decide +kernel))))) (va_eqt (hfl (.eq (.elem (.static "Bijectory" "STEP_FROM" "[I") (.int 8)) (.int 2)) (List.mem_of_getElem? (i := 35) (by decide +kernel))))) (va_eqt (hfl (.eq (.elem (.static "Bijectory" "STEP_FROM" "[I") (.int 9)) (.int 2)) (List.mem_of_getElem? (i := 36) (by decide +kernel))))) (va_eqt (hfl (.eq (.elem (.static "Bijectory" "STEP_FROM" "[I") (.int 10)) (.int 2)) (List.mem_of_getElem? (i := 37) (by decide +kernel))))
  obtain ⟨t, h1, h2⟩ := va_Tof (N := 11) (by decide) (hfl (.arrayOf (.static "Bijectory" "STEP_FROM" "[I") .int) (List.mem_of_getElem? (i := 25) (by decide +kernel))) (va_eqt (hfl (.eq (.length (.static "Bijectory" "STEP_FROM" "[I")) (.int 11)) (List.mem_of_getElem? (i := 26) (by decide +kernel)))) hel hA
  exact ⟨t, h2, va_Zref (hts (.laysStatic "Bijectory" "STEP_FROM" "[I") (List.mem_of_getElem? (i := 203) (by decide +kernel))) (hts (.initialized "Bijectory") (List.mem_of_getElem? (i := 65) (by decide +kernel))) h1 hA⟩
theorem kT_at1 {a0 : Array Value} {s : State} (hts : ∀ w ∈ lw_tbl, w.before a0 s = true) (hfl : ∀ w ∈ kFlat, w.before a0 s = true) : ∃ t : Nat, va_T .int t 11 (fun j => .int (([1, 1, 0, 1, 0, 0, 2, 1, 2, 2, 2] : List Int32).getD j 0)) (fun q => s.heap.size ≤ q) s s.heap ∧ va_Z "Bijectory" "STEP_TO" "[I" (.ref t) (fun q => s.heap.size ≤ q) s s.heap := by
  have hA : ∀ a : Nat, a < s.heap.size → ¬ (fun q => s.heap.size ≤ q) a := fun a h h2 => Nat.lt_irrefl _ (Nat.lt_of_lt_of_le h h2)
  have hel : ∀ j : Nat, j < 11 → (Term.elem (.static "Bijectory" "STEP_TO" "[I") (.int (Int32.ofNat j))).eval a0 s none [] s = some (.int (([1, 1, 0, 1, 0, 0, 2, 1, 2, 2, 2] : List Int32).getD j 0)) := lt_s (lt_s (lt_s (lt_s (lt_s (lt_s (lt_s (lt_s (lt_s (lt_s (lt_s (lt_0) (va_eqt (hfl (.eq (.elem (.static "Bijectory" "STEP_TO" "[I") (.int 0)) (.int 1)) (List.mem_of_getElem? (i := 41) (by decide +kernel))))) (va_eqt (hfl (.eq (.elem (.static "Bijectory" "STEP_TO" "[I") (.int 1)) (.int 1)) (List.mem_of_getElem? (i := 42) (by decide +kernel))))) (va_eqt (hfl (.eq (.elem (.static "Bijectory" "STEP_TO" "[I") (.int 2)) (.int 0)) (List.mem_of_getElem? (i := 43) (by decide +kernel))))) (va_eqt (hfl (.eq (.elem (.static "Bijectory" "STEP_TO" "[I") (.int 3)) (.int 1)) (List.mem_of_getElem? (i := 44) (by decide +kernel))))) (va_eqt (hfl (.eq (.elem (.static "Bijectory" "STEP_TO" "[I") (.int 4)) (.int 0)) (List.mem_of_getElem? (i := 45) (by decide +kernel))))) (va_eqt (hfl (.eq (.elem (.static "Bijectory" "STEP_TO" "[I") (.int 5)) (.int 0)) (List.mem_of_getElem? (i := 46) (by decide +kernel))))) (va_eqt (hfl (.eq (.elem (.static "Bijectory" "STEP_TO" "[I") (.int 6)) (.int 2)) (List.mem_of_getElem? (i := 47) (by decide +kernel))))) (va_eqt (hfl (.eq (.elem (.static "Bijectory" "STEP_TO" "[I") (.int 7)) (.int 1)) (List.mem_of_getElem? (i := 48) (by decide +kernel))))) (va_eqt (hfl (.eq (.elem (.static "Bijectory" "STEP_TO" "[I") (.int 8)) (.int 2)) (List.mem_of_getElem? (i := 49) (by decide +kernel))))) (va_eqt (hfl (.eq (.elem (.static "Bijectory" "STEP_TO" "[I") (.int 9)) (.int 2)) (List.mem_of_getElem? (i := 50) (by decide +kernel))))) (va_eqt (hfl (.eq (.elem (.static "Bijectory" "STEP_TO" "[I") (.int 10)) (.int 2)) (List.mem_of_getElem? (i := 51) (by decide +kernel))))
  obtain ⟨t, h1, h2⟩ := va_Tof (N := 11) (by decide) (hfl (.arrayOf (.static "Bijectory" "STEP_TO" "[I") .int) (List.mem_of_getElem? (i := 39) (by decide +kernel))) (va_eqt (hfl (.eq (.length (.static "Bijectory" "STEP_TO" "[I")) (.int 11)) (List.mem_of_getElem? (i := 40) (by decide +kernel)))) hel hA
  exact ⟨t, h2, va_Zref (hts (.laysStatic "Bijectory" "STEP_TO" "[I") (List.mem_of_getElem? (i := 205) (by decide +kernel))) (hts (.initialized "Bijectory") (List.mem_of_getElem? (i := 65) (by decide +kernel))) h1 hA⟩
theorem kT_at2 {a0 : Array Value} {s : State} (hts : ∀ w ∈ lw_tbl, w.before a0 s = true) (hfl : ∀ w ∈ kFlat, w.before a0 s = true) : ∃ t : Nat, va_T .int t 7 (fun j => .int (([1, 1, 2, 5, 14, 42, 132] : List Int32).getD j 0)) (fun q => s.heap.size ≤ q) s s.heap ∧ va_Z "Bijectory" "PATH_COUNTS" "[I" (.ref t) (fun q => s.heap.size ≤ q) s s.heap := by
  have hA : ∀ a : Nat, a < s.heap.size → ¬ (fun q => s.heap.size ≤ q) a := fun a h h2 => Nat.lt_irrefl _ (Nat.lt_of_lt_of_le h h2)
  have hel : ∀ j : Nat, j < 7 → (Term.elem (.static "Bijectory" "PATH_COUNTS" "[I") (.int (Int32.ofNat j))).eval a0 s none [] s = some (.int (([1, 1, 2, 5, 14, 42, 132] : List Int32).getD j 0)) := lt_s (lt_s (lt_s (lt_s (lt_s (lt_s (lt_s (lt_0) (va_eqt (hfl (.eq (.elem (.static "Bijectory" "PATH_COUNTS" "[I") (.int 0)) (.int 1)) (List.mem_of_getElem? (i := 17) (by decide +kernel))))) (va_eqt (hfl (.eq (.elem (.static "Bijectory" "PATH_COUNTS" "[I") (.int 1)) (.int 1)) (List.mem_of_getElem? (i := 18) (by decide +kernel))))) (va_eqt (hfl (.eq (.elem (.static "Bijectory" "PATH_COUNTS" "[I") (.int 2)) (.int 2)) (List.mem_of_getElem? (i := 19) (by decide +kernel))))) (va_eqt (hfl (.eq (.elem (.static "Bijectory" "PATH_COUNTS" "[I") (.int 3)) (.int 5)) (List.mem_of_getElem? (i := 20) (by decide +kernel))))) (va_eqt (hfl (.eq (.elem (.static "Bijectory" "PATH_COUNTS" "[I") (.int 4)) (.int 14)) (List.mem_of_getElem? (i := 21) (by decide +kernel))))) (va_eqt (hfl (.eq (.elem (.static "Bijectory" "PATH_COUNTS" "[I") (.int 5)) (.int 42)) (List.mem_of_getElem? (i := 22) (by decide +kernel))))) (va_eqt (hfl (.eq (.elem (.static "Bijectory" "PATH_COUNTS" "[I") (.int 6)) (.int 132)) (List.mem_of_getElem? (i := 23) (by decide +kernel))))
  obtain ⟨t, h1, h2⟩ := va_Tof (N := 7) (by decide) (hfl (.arrayOf (.static "Bijectory" "PATH_COUNTS" "[I") .int) (List.mem_of_getElem? (i := 15) (by decide +kernel))) (va_eqt (hfl (.eq (.length (.static "Bijectory" "PATH_COUNTS" "[I")) (.int 7)) (List.mem_of_getElem? (i := 16) (by decide +kernel)))) hel hA
  exact ⟨t, h2, va_Zref (hts (.laysStatic "Bijectory" "PATH_COUNTS" "[I") (List.mem_of_getElem? (i := 146) (by decide +kernel))) (hts (.initialized "Bijectory") (List.mem_of_getElem? (i := 65) (by decide +kernel))) h1 hA⟩
theorem kT_at3 {a0 : Array Value} {s : State} (hts : ∀ w ∈ lw_tbl, w.before a0 s = true) (hfl : ∀ w ∈ kFlat, w.before a0 s = true) : ∃ t : Nat, va_T .int t 7 (fun j => .int (([1, 1, 2, 6, 24, 120, 720] : List Int32).getD j 0)) (fun q => s.heap.size ≤ q) s s.heap ∧ va_Z "Bijectory" "ORDER_COUNTS" "[I" (.ref t) (fun q => s.heap.size ≤ q) s s.heap := by
  have hA : ∀ a : Nat, a < s.heap.size → ¬ (fun q => s.heap.size ≤ q) a := fun a h h2 => Nat.lt_irrefl _ (Nat.lt_of_lt_of_le h h2)
  have hel : ∀ j : Nat, j < 7 → (Term.elem (.static "Bijectory" "ORDER_COUNTS" "[I") (.int (Int32.ofNat j))).eval a0 s none [] s = some (.int (([1, 1, 2, 6, 24, 120, 720] : List Int32).getD j 0)) := lt_s (lt_s (lt_s (lt_s (lt_s (lt_s (lt_s (lt_0) (va_eqt (hfl (.eq (.elem (.static "Bijectory" "ORDER_COUNTS" "[I") (.int 0)) (.int 1)) (List.mem_of_getElem? (i := 7) (by decide +kernel))))) (va_eqt (hfl (.eq (.elem (.static "Bijectory" "ORDER_COUNTS" "[I") (.int 1)) (.int 1)) (List.mem_of_getElem? (i := 8) (by decide +kernel))))) (va_eqt (hfl (.eq (.elem (.static "Bijectory" "ORDER_COUNTS" "[I") (.int 2)) (.int 2)) (List.mem_of_getElem? (i := 9) (by decide +kernel))))) (va_eqt (hfl (.eq (.elem (.static "Bijectory" "ORDER_COUNTS" "[I") (.int 3)) (.int 6)) (List.mem_of_getElem? (i := 10) (by decide +kernel))))) (va_eqt (hfl (.eq (.elem (.static "Bijectory" "ORDER_COUNTS" "[I") (.int 4)) (.int 24)) (List.mem_of_getElem? (i := 11) (by decide +kernel))))) (va_eqt (hfl (.eq (.elem (.static "Bijectory" "ORDER_COUNTS" "[I") (.int 5)) (.int 120)) (List.mem_of_getElem? (i := 12) (by decide +kernel))))) (va_eqt (hfl (.eq (.elem (.static "Bijectory" "ORDER_COUNTS" "[I") (.int 6)) (.int 720)) (List.mem_of_getElem? (i := 13) (by decide +kernel))))
  obtain ⟨t, h1, h2⟩ := va_Tof (N := 7) (by decide) (hfl (.arrayOf (.static "Bijectory" "ORDER_COUNTS" "[I") .int) (List.mem_of_getElem? (i := 5) (by decide +kernel))) (va_eqt (hfl (.eq (.length (.static "Bijectory" "ORDER_COUNTS" "[I")) (.int 7)) (List.mem_of_getElem? (i := 6) (by decide +kernel)))) hel hA
  exact ⟨t, h2, va_Zref (hts (.laysStatic "Bijectory" "ORDER_COUNTS" "[I") (List.mem_of_getElem? (i := 114) (by decide +kernel))) (hts (.initialized "Bijectory") (List.mem_of_getElem? (i := 65) (by decide +kernel))) h1 hA⟩
theorem kT_at4 {a0 : Array Value} {s : State} (hts : ∀ w ∈ lw_tbl, w.before a0 s = true) (hfl : ∀ w ∈ kFlat, w.before a0 s = true) : ∃ t : Nat, va_T .int t 7 (fun j => .int (([1, 10, 100, 1000, 10000, 100000, 1000000] : List Int32).getD j 0)) (fun q => s.heap.size ≤ q) s s.heap ∧ va_Z "Bijectory" "TENS" "[I" (.ref t) (fun q => s.heap.size ≤ q) s s.heap := by
  have hA : ∀ a : Nat, a < s.heap.size → ¬ (fun q => s.heap.size ≤ q) a := fun a h h2 => Nat.lt_irrefl _ (Nat.lt_of_lt_of_le h h2)
  have hel : ∀ j : Nat, j < 7 → (Term.elem (.static "Bijectory" "TENS" "[I") (.int (Int32.ofNat j))).eval a0 s none [] s = some (.int (([1, 10, 100, 1000, 10000, 100000, 1000000] : List Int32).getD j 0)) := lt_s (lt_s (lt_s (lt_s (lt_s (lt_s (lt_s (lt_0) (va_eqt (hfl (.eq (.elem (.static "Bijectory" "TENS" "[I") (.int 0)) (.int 1)) (List.mem_of_getElem? (i := 55) (by decide +kernel))))) (va_eqt (hfl (.eq (.elem (.static "Bijectory" "TENS" "[I") (.int 1)) (.int 10)) (List.mem_of_getElem? (i := 56) (by decide +kernel))))) (va_eqt (hfl (.eq (.elem (.static "Bijectory" "TENS" "[I") (.int 2)) (.int 100)) (List.mem_of_getElem? (i := 57) (by decide +kernel))))) (va_eqt (hfl (.eq (.elem (.static "Bijectory" "TENS" "[I") (.int 3)) (.int 1000)) (List.mem_of_getElem? (i := 58) (by decide +kernel))))) (va_eqt (hfl (.eq (.elem (.static "Bijectory" "TENS" "[I") (.int 4)) (.int 10000)) (List.mem_of_getElem? (i := 59) (by decide +kernel))))) (va_eqt (hfl (.eq (.elem (.static "Bijectory" "TENS" "[I") (.int 5)) (.int 100000)) (List.mem_of_getElem? (i := 60) (by decide +kernel))))) (va_eqt (hfl (.eq (.elem (.static "Bijectory" "TENS" "[I") (.int 6)) (.int 1000000)) (List.mem_of_getElem? (i := 61) (by decide +kernel))))
  obtain ⟨t, h1, h2⟩ := va_Tof (N := 7) (by decide) (hfl (.arrayOf (.static "Bijectory" "TENS" "[I") .int) (List.mem_of_getElem? (i := 53) (by decide +kernel))) (va_eqt (hfl (.eq (.length (.static "Bijectory" "TENS" "[I")) (.int 7)) (List.mem_of_getElem? (i := 54) (by decide +kernel)))) hel hA
  exact ⟨t, h2, va_Zref (hts (.laysStatic "Bijectory" "TENS" "[I") (List.mem_of_getElem? (i := 264) (by decide +kernel))) (hts (.initialized "Bijectory") (List.mem_of_getElem? (i := 65) (by decide +kernel))) h1 hA⟩
theorem kT_at5 {a0 : Array Value} {s : State} (hts : ∀ w ∈ lw_tbl, w.before a0 s = true) (hfl : ∀ w ∈ kFlat, w.before a0 s = true) : ∃ t : Nat, va_T .int t 11 (fun j => .int (([0, 0, 1, 1, 0, 0, 1, 2, 2, 2, 2] : List Int32).getD j 0)) (fun q => s.heap.size ≤ q) s s.heap ∧ va_Z "BijectoryModel" "FROM" "[I" (.ref t) (fun q => s.heap.size ≤ q) s s.heap := by
  have hA : ∀ a : Nat, a < s.heap.size → ¬ (fun q => s.heap.size ≤ q) a := fun a h h2 => Nat.lt_irrefl _ (Nat.lt_of_lt_of_le h h2)
  have hel : ∀ j : Nat, j < 11 → (Term.elem (.static "BijectoryModel" "FROM" "[I") (.int (Int32.ofNat j))).eval a0 s none [] s = some (.int (([0, 0, 1, 1, 0, 0, 1, 2, 2, 2, 2] : List Int32).getD j 0)) := lt_s (lt_s (lt_s (lt_s (lt_s (lt_s (lt_s (lt_s (lt_s (lt_s (lt_s (lt_0) (va_eqt (hfl (.eq (.elem (.static "BijectoryModel" "FROM" "[I") (.int 0)) (.int 0)) (List.mem_of_getElem? (i := 76) (by decide +kernel))))) (va_eqt (hfl (.eq (.elem (.static "BijectoryModel" "FROM" "[I") (.int 1)) (.int 0)) (List.mem_of_getElem? (i := 77) (by decide +kernel))))) (va_eqt (hfl (.eq (.elem (.static "BijectoryModel" "FROM" "[I") (.int 2)) (.int 1)) (List.mem_of_getElem? (i := 78) (by decide +kernel))))) (va_eqt (hfl (.eq (.elem (.static "BijectoryModel" "FROM" "[I") (.int 3)) (.int 1)) (List.mem_of_getElem? (i := 79) (by decide +kernel))))) (va_eqt (hfl (.eq (.elem (.static "BijectoryModel" "FROM" "[I") (.int 4)) (.int 0)) (List.mem_of_getElem? (i := 80) (by decide +kernel))))) (va_eqt (hfl (.eq (.elem (.static "BijectoryModel" "FROM" "[I") (.int 5)) (.int 0)) (List.mem_of_getElem? (i := 81) (by decide +kernel))))) (va_eqt (hfl (.eq (.elem (.static "BijectoryModel" "FROM" "[I") (.int 6)) (.int 1)) (List.mem_of_getElem? (i := 82) (by decide +kernel))))) (va_eqt (hfl (.eq (.elem (.static "BijectoryModel" "FROM" "[I") (.int 7)) (.int 2)) (List.mem_of_getElem? (i := 83) (by decide +kernel))))) (va_eqt (hfl (.eq (.elem (.static "BijectoryModel" "FROM" "[I") (.int 8)) (.int 2)) (List.mem_of_getElem? (i := 84) (by decide +kernel))))) (va_eqt (hfl (.eq (.elem (.static "BijectoryModel" "FROM" "[I") (.int 9)) (.int 2)) (List.mem_of_getElem? (i := 85) (by decide +kernel))))) (va_eqt (hfl (.eq (.elem (.static "BijectoryModel" "FROM" "[I") (.int 10)) (.int 2)) (List.mem_of_getElem? (i := 86) (by decide +kernel))))
  obtain ⟨t, h1, h2⟩ := va_Tof (N := 11) (by decide) (hfl (.arrayOf (.static "BijectoryModel" "FROM" "[I") .int) (List.mem_of_getElem? (i := 74) (by decide +kernel))) (va_eqt (hfl (.eq (.length (.static "BijectoryModel" "FROM" "[I")) (.int 11)) (List.mem_of_getElem? (i := 75) (by decide +kernel)))) hel hA
  exact ⟨t, h2, va_Zref (hts (.laysStatic "BijectoryModel" "FROM" "[I") (List.mem_of_getElem? (i := 1223) (by decide +kernel))) (hts (.initialized "BijectoryModel") (List.mem_of_getElem? (i := 73) (by decide +kernel))) h1 hA⟩
theorem kT_at6 {a0 : Array Value} {s : State} (hts : ∀ w ∈ lw_tbl, w.before a0 s = true) (hfl : ∀ w ∈ kFlat, w.before a0 s = true) : ∃ t : Nat, va_T .int t 11 (fun j => .int (([1, 1, 0, 1, 0, 0, 2, 1, 2, 2, 2] : List Int32).getD j 0)) (fun q => s.heap.size ≤ q) s s.heap ∧ va_Z "BijectoryModel" "TO" "[I" (.ref t) (fun q => s.heap.size ≤ q) s s.heap := by
  have hA : ∀ a : Nat, a < s.heap.size → ¬ (fun q => s.heap.size ≤ q) a := fun a h h2 => Nat.lt_irrefl _ (Nat.lt_of_lt_of_le h h2)
  have hel : ∀ j : Nat, j < 11 → (Term.elem (.static "BijectoryModel" "TO" "[I") (.int (Int32.ofNat j))).eval a0 s none [] s = some (.int (([1, 1, 0, 1, 0, 0, 2, 1, 2, 2, 2] : List Int32).getD j 0)) := lt_s (lt_s (lt_s (lt_s (lt_s (lt_s (lt_s (lt_s (lt_s (lt_s (lt_s (lt_0) (va_eqt (hfl (.eq (.elem (.static "BijectoryModel" "TO" "[I") (.int 0)) (.int 1)) (List.mem_of_getElem? (i := 90) (by decide +kernel))))) (va_eqt (hfl (.eq (.elem (.static "BijectoryModel" "TO" "[I") (.int 1)) (.int 1)) (List.mem_of_getElem? (i := 91) (by decide +kernel))))) (va_eqt (hfl (.eq (.elem (.static "BijectoryModel" "TO" "[I") (.int 2)) (.int 0)) (List.mem_of_getElem? (i := 92) (by decide +kernel))))) (va_eqt (hfl (.eq (.elem (.static "BijectoryModel" "TO" "[I") (.int 3)) (.int 1)) (List.mem_of_getElem? (i := 93) (by decide +kernel))))) (va_eqt (hfl (.eq (.elem (.static "BijectoryModel" "TO" "[I") (.int 4)) (.int 0)) (List.mem_of_getElem? (i := 94) (by decide +kernel))))) (va_eqt (hfl (.eq (.elem (.static "BijectoryModel" "TO" "[I") (.int 5)) (.int 0)) (List.mem_of_getElem? (i := 95) (by decide +kernel))))) (va_eqt (hfl (.eq (.elem (.static "BijectoryModel" "TO" "[I") (.int 6)) (.int 2)) (List.mem_of_getElem? (i := 96) (by decide +kernel))))) (va_eqt (hfl (.eq (.elem (.static "BijectoryModel" "TO" "[I") (.int 7)) (.int 1)) (List.mem_of_getElem? (i := 97) (by decide +kernel))))) (va_eqt (hfl (.eq (.elem (.static "BijectoryModel" "TO" "[I") (.int 8)) (.int 2)) (List.mem_of_getElem? (i := 98) (by decide +kernel))))) (va_eqt (hfl (.eq (.elem (.static "BijectoryModel" "TO" "[I") (.int 9)) (.int 2)) (List.mem_of_getElem? (i := 99) (by decide +kernel))))) (va_eqt (hfl (.eq (.elem (.static "BijectoryModel" "TO" "[I") (.int 10)) (.int 2)) (List.mem_of_getElem? (i := 100) (by decide +kernel))))
  obtain ⟨t, h1, h2⟩ := va_Tof (N := 11) (by decide) (hfl (.arrayOf (.static "BijectoryModel" "TO" "[I") .int) (List.mem_of_getElem? (i := 88) (by decide +kernel))) (va_eqt (hfl (.eq (.length (.static "BijectoryModel" "TO" "[I")) (.int 11)) (List.mem_of_getElem? (i := 89) (by decide +kernel)))) hel hA
  exact ⟨t, h2, va_Zref (hts (.laysStatic "BijectoryModel" "TO" "[I") (List.mem_of_getElem? (i := 1229) (by decide +kernel))) (hts (.initialized "BijectoryModel") (List.mem_of_getElem? (i := 73) (by decide +kernel))) h1 hA⟩
theorem kKK_at {a0 : Array Value} {s : State} (hts : ∀ w ∈ lw_tbl, w.before a0 s = true) (hfl : ∀ w ∈ kFlat, w.before a0 s = true) {b L : Nat} {xs : Nat → Int32} (hL : L < 2 ^ 31) (hX : va_X b L xs s s.heap) (hb : b < s.heap.size) : ∃ (E : kE) (σ : List Nat), kcl E = kCl ∧ kn E = 20 ∧ ktb E = tbx ((List.range L).map xs) ∧ kb E = s.heap.size ∧ σ[7]? = some b ∧ σ.length = 20 ∧ kKK E (kXX (kb E) σ) σ kZs s := by
  obtain ⟨dC, dI, hKc⟩ := kKn_at hts
  obtain ⟨t0, hT0, hZ0⟩ := kT_at0 hts hfl
  obtain ⟨t1, hT1, hZ1⟩ := kT_at1 hts hfl
  obtain ⟨t2, hT2, hZ2⟩ := kT_at2 hts hfl
  obtain ⟨t3, hT3, hZ3⟩ := kT_at3 hts hfl
  obtain ⟨t4, hT4, hZ4⟩ := kT_at4 hts hfl
  obtain ⟨t5, hT5, hZ5⟩ := kT_at5 hts hfl
  obtain ⟨t6, hT6, hZ6⟩ := kT_at6 hts hfl
  obtain ⟨e0, hE1, hE2⟩ := kE0_at hts hfl
  obtain ⟨bb, ad, hB1, hB2, hB3⟩ := kBx_at hts hfl
  refine ⟨(kCl, dC, dI, s.heap.size, tbx ((List.range L).map xs)), [t0, t1, t2, t3, t4, t5, t6, b, e0, ad 128, ad 129, ad 130, ad 131, ad 132, ad 133, ad 134, ad 135, ad 136, ad 137, ad 138], rfl, rfl, rfl, rfl, rfl, rfl, ⟨(show kCl.length ≤ 100 by decide), rfl, Nat.le_refl _⟩, hKc, ?_, ?_, kXX_at hts hfl rfl hE2 hB1 hB2 hB3 (fun k hk => ?_)⟩
  · intro k a t ha ht
    match k, ha, ht with
    | 0, ha, ht => cases ha; cases ht; exact Or.inl ⟨by decide, hT0⟩
    | 1, ha, ht => cases ha; cases ht; exact Or.inl ⟨by decide, hT1⟩
    | 2, ha, ht => cases ha; cases ht; exact Or.inl ⟨by decide, hT2⟩
    | 3, ha, ht => cases ha; cases ht; exact Or.inl ⟨by decide, hT3⟩
    | 4, ha, ht => cases ha; cases ht; exact Or.inl ⟨by decide, hT4⟩
    | 5, ha, ht => cases ha; cases ht; exact Or.inl ⟨by decide, hT5⟩
    | 6, ha, ht => cases ha; cases ht; exact Or.inl ⟨by decide, hT6⟩
    | 7, ha, ht =>
      cases ha
      cases ht
      obtain ⟨scr, g1, g2, g3, g4, g5⟩ := hX
      have e1 : ((List.range L).map xs).length = L := by rw [List.length_map, List.length_range]
      refine Or.inl ⟨by decide, ⟨scr, g1, g2, g3, by rw [e1, g4]; exact Nat.le_refl _, by rw [e1, g4], fun j hj => ?_, Nat.not_le.mpr hb⟩⟩
      rw [e1] at hj
      rw [g5 j hj]
      congr 2
      rw [List.getD_eq_getElem?_getD, List.getElem?_map, List.getElem?_range hj]
      rfl
    | 8, ha, ht => cases ha; cases ht; exact Or.inr (Or.inl ⟨rfl, rfl, hE1⟩)
    | 9, ha, ht => cases ha; cases ht; exact Or.inr (Or.inr ⟨by decide, rfl⟩)
    | 10, ha, ht => cases ha; cases ht; exact Or.inr (Or.inr ⟨by decide, rfl⟩)
    | 11, ha, ht => cases ha; cases ht; exact Or.inr (Or.inr ⟨by decide, rfl⟩)
    | 12, ha, ht => cases ha; cases ht; exact Or.inr (Or.inr ⟨by decide, rfl⟩)
    | 13, ha, ht => cases ha; cases ht; exact Or.inr (Or.inr ⟨by decide, rfl⟩)
    | 14, ha, ht => cases ha; cases ht; exact Or.inr (Or.inr ⟨by decide, rfl⟩)
    | 15, ha, ht => cases ha; cases ht; exact Or.inr (Or.inr ⟨by decide, rfl⟩)
    | 16, ha, ht => cases ha; cases ht; exact Or.inr (Or.inr ⟨by decide, rfl⟩)
    | 17, ha, ht => cases ha; cases ht; exact Or.inr (Or.inr ⟨by decide, rfl⟩)
    | 18, ha, ht => cases ha; cases ht; exact Or.inr (Or.inr ⟨by decide, rfl⟩)
    | 19, ha, ht => cases ha; cases ht; exact Or.inr (Or.inr ⟨by decide, rfl⟩)
    | k + 20, ha, ht => simp at ha
  · intro z hz
    exact (show ∀ z ∈ kZs, ∃ a, ([t0, t1, t2, t3, t4, t5, t6, b, e0, ad 128, ad 129, ad 130, ad 131, ad 132, ad 133, ad 134, ad 135, ad 136, ad 137, ad 138] : List Nat)[z.2.2]? = some a ∧ va_Z z.1 z.2.1 "[I" (.ref a) (fun q => s.heap.size ≤ q) s s.heap from List.forall_mem_cons.mpr ⟨⟨t0, rfl, hZ0⟩, List.forall_mem_cons.mpr ⟨⟨t1, rfl, hZ1⟩, List.forall_mem_cons.mpr ⟨⟨t2, rfl, hZ2⟩, List.forall_mem_cons.mpr ⟨⟨t3, rfl, hZ3⟩, List.forall_mem_cons.mpr ⟨⟨t4, rfl, hZ4⟩, List.forall_mem_cons.mpr ⟨⟨t5, rfl, hZ5⟩, List.forall_mem_cons.mpr ⟨⟨t6, rfl, hZ6⟩, fun _ h => by cases h⟩⟩⟩⟩⟩⟩⟩) z hz
  · match k, hk with
    | 0, hk => rfl
    | 1, hk => rfl
    | 2, hk => rfl
    | 3, hk => rfl
    | 4, hk => rfl
    | 5, hk => rfl
    | 6, hk => rfl
    | 7, hk => rfl
    | 8, hk => rfl
    | 9, hk => rfl
    | 10, hk => rfl
    | k + 11, hk => omega
