/-! ===== what holds at the law's entry; the claim out of the law's function ===== -/
theorem in_places {α : Type} {big L : List α} (ps : List Nat) (h : L = ps.filterMap (fun i => big[i]?)) : ∀ w ∈ L, w ∈ big := by
  intro w hw
  rw [h] at hw
  obtain ⟨i, -, hi⟩ := List.mem_filterMap.mp hw
  exact List.mem_of_getElem? hi
theorem ag_sup {a b : String} {u U : State} (hvm : u.vm.Alike U.vm) (h : va_Nw (.superclass a b) u) : va_Nw (.superclass a b) U := by
  simp only [va_Nw, Cond.before, Cond.holds, Cond.value] at h ⊢
  rw [hvm.findClass, hvm.findClass]
  cases hc : u.vm.findClass a with
  | none => rw [hc] at h; simp at h
  | some c =>
    cases hp : u.vm.findClass b with
    | none => rw [hc, hp] at h; simp at h
    | some p =>
      rw [hc, hp] at h
      dsimp only at h ⊢
      cases hk : u.vm.classes[c]? with
      | none => rw [hk] at h; simp at h
      | some k =>
        cases hkp : u.vm.classes[p]? with
        | none => rw [hk, hkp] at h; simp at h
        | some kp =>
          rw [hk, hkp] at h
          obtain ⟨k', e1, e2⟩ := hvm.2.2 _ _ hk
          obtain ⟨kp', e3, e4⟩ := hvm.2.2 _ _ hkp
          rw [e1, e3, e2, e4]
          exact h
theorem ag_aoa {t : FieldType} {u U : State} (hvm : u.vm.Alike U.vm) (h : va_Nw (.arrayOver t) u) : va_Nw (.arrayOver t) U := by
  show (Cond.arrayOver t).before #[] (u.setVm U.vm) = true
  rw [Cond.arrayOver_setVmC hvm]
  exact h
/-- a word that rides on while the tables are alike -/
def kRide (w : Cond) : Prop := ∀ u U : State, u.WarmedH U.vm → va_Nw w u → va_Nw w U
theorem rd_0 : kRide (.fieldLinkNest "Bijectory$Orders" 9 "Bijectory" "ORDER_COUNTS" "[I" "Bijectory") := fun u U hW h => va_Nw.warmF hW h
theorem rd_1 : kRide (.fieldLinkNest "Bijectory$Orders" 37 "Bijectory" "TENS" "[I" "Bijectory") := fun u U hW h => va_Nw.warmF hW h
theorem rd_2 : kRide (.fieldLinkNest "Bijectory$Trees" 37 "Bijectory" "TENS" "[I" "Bijectory") := fun u U hW h => va_Nw.warmF hW h
theorem rd_3 : kRide (.fieldLinkNest "Bijectory$Realm" 9 "Bijectory" "PATH_COUNTS" "[I" "Bijectory") := fun u U hW h => va_Nw.warmF hW h
theorem rd_4 : kRide (.fieldLinkNest "Bijectory$Realm" 25 "Bijectory" "ORDER_COUNTS" "[I" "Bijectory") := fun u U hW h => va_Nw.warmF hW h
theorem rd_5 : kRide (.arrayOver (.array .int)) := fun u U hW h => ag_aoa hW.alike h
theorem rd_6 : kRide (.fieldLinkNest "Bijectory$Realm" 82 "Bijectory" "STEP_FROM" "[I" "Bijectory") := fun u U hW h => va_Nw.warmF hW h
theorem rd_7 : kRide (.fieldLinkNest "Bijectory$Realm" 85 "Bijectory" "STEP_TO" "[I" "Bijectory") := fun u U hW h => va_Nw.warmF hW h
theorem rd_8 : kRide (.methodLinkNest "Bijectory$Realm" 112 yX3_graft "Bijectory") := fun u U hW h => va_Nw.warmM hW h
theorem rd_9 : kRide (.methodLinkNest "Bijectory$Realm" 115 yX7_mirror "Bijectory") := fun u U hW h => va_Nw.warmM hW h
theorem rd_10 : kRide (.methodLinkNest "Bijectory$Realm" 126 yX7_label "Bijectory") := fun u U hW h => va_Nw.warmM hW h
theorem rd_11 : kRide (.methodLinkNest "Bijectory$Realm" 129 yX2_shape "Bijectory") := fun u U hW h => va_Nw.warmM hW h
theorem rd_12 : kRide (.methodLinkNest "Bijectory$Realm" 144 yX7_valueOf "Bijectory") := fun u U hW h => va_Nw.warmM hW h
theorem rd_13 : kRide (.fieldLinkNest "Bijectory$Chart" 19 "Bijectory" "STEP_FROM" "[I" "Bijectory") := fun u U hW h => va_Nw.warmF hW h
theorem rd_14 : kRide (.fieldLinkNest "Bijectory$Chart" 31 "Bijectory" "STEP_TO" "[I" "Bijectory") := fun u U hW h => va_Nw.warmF hW h
theorem rd_15 : kRide (.fieldLinkNest "Bijectory$Survey" 9 "Bijectory" "ORDER_COUNTS" "[I" "Bijectory") := fun u U hW h => va_Nw.warmF hW h
theorem rd_16 : kRide (.arrayOver (.object "Bijectory$Realm")) := fun u U hW h => ag_aoa hW.alike h
theorem rd_17 : kRide (.arrayOver (.object "Bijectory$Chart")) := fun u U hW h => ag_aoa hW.alike h
theorem rd_18 : kRide (.arrayOver (.object "Bijectory$Walker")) := fun u U hW h => ag_aoa hW.alike h
theorem rd_19 : kRide (.arrayOver (.object "Bijectory$Claim")) := fun u U hW h => ag_aoa hW.alike h
theorem rd_20 : kRide (.castable "java/lang/IllegalArgumentException" "java/lang/IllegalArgumentException") := fun u U hW h => va_Nw.warmC hW h
theorem rd_21 : kRide (.superclass "java/lang/Throwable" "java/lang/Object") := fun u U hW h => ag_sup hW.alike h
theorem rd_22 : kRide (.declares ⟨"java/lang/RuntimeException", "<init>", "(Ljava/lang/String;)V"⟩) := fun u U hW h => va_Nw.warmD hW h
theorem rd_23 : kRide (.declares ⟨"java/lang/Exception", "<init>", "(Ljava/lang/String;)V"⟩) := fun u U hW h => va_Nw.warmD hW h
theorem rd_24 : kRide (.declares ⟨"java/lang/Throwable", "<init>", "(Ljava/lang/String;)V"⟩) := fun u U hW h => va_Nw.warmD hW h
theorem rd_25 : kRide (.castable "java/lang/IllegalStateException" "java/lang/IllegalStateException") := fun u U hW h => va_Nw.warmC hW h
theorem rd_26 : kRide (.castable "java/lang/IndexOutOfBoundsException" "java/lang/IndexOutOfBoundsException") := fun u U hW h => va_Nw.warmC hW h
theorem rd_all : ∀ w ∈ kxW, kRide w := List.forall_mem_cons.mpr ⟨rd_0, List.forall_mem_cons.mpr ⟨rd_1, List.forall_mem_cons.mpr ⟨rd_2, List.forall_mem_cons.mpr ⟨rd_3, List.forall_mem_cons.mpr ⟨rd_4, List.forall_mem_cons.mpr ⟨rd_5, List.forall_mem_cons.mpr ⟨rd_6, List.forall_mem_cons.mpr ⟨rd_7, List.forall_mem_cons.mpr ⟨rd_8, List.forall_mem_cons.mpr ⟨rd_9, List.forall_mem_cons.mpr ⟨rd_10, List.forall_mem_cons.mpr ⟨rd_11, List.forall_mem_cons.mpr ⟨rd_12, List.forall_mem_cons.mpr ⟨rd_13, List.forall_mem_cons.mpr ⟨rd_14, List.forall_mem_cons.mpr ⟨rd_15, List.forall_mem_cons.mpr ⟨rd_16, List.forall_mem_cons.mpr ⟨rd_17, List.forall_mem_cons.mpr ⟨rd_18, List.forall_mem_cons.mpr ⟨rd_19, List.forall_mem_cons.mpr ⟨rd_20, List.forall_mem_cons.mpr ⟨rd_21, List.forall_mem_cons.mpr ⟨rd_22, List.forall_mem_cons.mpr ⟨rd_23, List.forall_mem_cons.mpr ⟨rd_24, List.forall_mem_cons.mpr ⟨rd_25, List.forall_mem_cons.mpr ⟨rd_26, fun _ h => by cases h⟩⟩⟩⟩⟩⟩⟩⟩⟩⟩⟩⟩⟩⟩⟩⟩⟩⟩⟩⟩⟩⟩⟩⟩⟩⟩⟩
theorem kXX_stab (b : Nat) : kStab b (kXX b) := by
  intro u U h hW hz hb hq
  have hvm := hW.alike
  obtain ⟨h1, h2, h3, h4, -⟩ := h
  have hk : ∀ a : Nat, a < u.heap.size → ¬ (b ≤ a) → U.heap[a]? = u.heap[a]? := fun a _ h => hq a (by omega)
  exact ⟨fun w hw => rd_all w hw u U hW (h1 w hw), fun q hq2 => by obtain ⟨sa, h6⟩ := h2 q hq2; exact ⟨sa, h6.warm hW⟩, (h3.moved hvm).kept hk, (h4.moved hvm).kept hk, trivial⟩
set_option maxRecDepth 100000 in
theorem kxW_in : ∀ w ∈ kxW, w ∈ lw_tbl := in_places [136, 220, 206, 88, 92, 94, 145, 147, 164, 177, 202, 209, 257, 415, 417, 56, 49, 74, 76, 78, 320, 340, 322, 324, 326, 396, 469] (by decide +kernel)
theorem kxW_on : ∀ w ∈ kxW, ∀ (a0 : Array Value) (s : State), w.before a0 s = true → va_Nw w s := List.forall_mem_cons.mpr ⟨fun a s h => va_Nw.of rfl h, List.forall_mem_cons.mpr ⟨fun a s h => va_Nw.of rfl h, List.forall_mem_cons.mpr ⟨fun a s h => va_Nw.of rfl h, List.forall_mem_cons.mpr ⟨fun a s h => va_Nw.of rfl h, List.forall_mem_cons.mpr ⟨fun a s h => va_Nw.of rfl h, List.forall_mem_cons.mpr ⟨fun a s h => h, List.forall_mem_cons.mpr ⟨fun a s h => va_Nw.of rfl h, List.forall_mem_cons.mpr ⟨fun a s h => va_Nw.of rfl h, List.forall_mem_cons.mpr ⟨fun a s h => va_Nw.of rfl h, List.forall_mem_cons.mpr ⟨fun a s h => va_Nw.of rfl h, List.forall_mem_cons.mpr ⟨fun a s h => va_Nw.of rfl h, List.forall_mem_cons.mpr ⟨fun a s h => va_Nw.of rfl h, List.forall_mem_cons.mpr ⟨fun a s h => va_Nw.of rfl h, List.forall_mem_cons.mpr ⟨fun a s h => va_Nw.of rfl h, List.forall_mem_cons.mpr ⟨fun a s h => va_Nw.of rfl h, List.forall_mem_cons.mpr ⟨fun a s h => va_Nw.of rfl h, List.forall_mem_cons.mpr ⟨fun a s h => h, List.forall_mem_cons.mpr ⟨fun a s h => h, List.forall_mem_cons.mpr ⟨fun a s h => h, List.forall_mem_cons.mpr ⟨fun a s h => h, List.forall_mem_cons.mpr ⟨fun a s h => va_Nw.of rfl h, List.forall_mem_cons.mpr ⟨fun a s h => va_Nw.of rfl h, List.forall_mem_cons.mpr ⟨fun a s h => va_Nw.of rfl h, List.forall_mem_cons.mpr ⟨fun a s h => va_Nw.of rfl h, List.forall_mem_cons.mpr ⟨fun a s h => va_Nw.of rfl h, List.forall_mem_cons.mpr ⟨fun a s h => va_Nw.of rfl h, List.forall_mem_cons.mpr ⟨fun a s h => va_Nw.of rfl h, fun _ h => by cases h⟩⟩⟩⟩⟩⟩⟩⟩⟩⟩⟩⟩⟩⟩⟩⟩⟩⟩⟩⟩⟩⟩⟩⟩⟩⟩⟩
set_option maxRecDepth 100000 in
theorem kStr_in : ∀ w ∈ kStr.map (fun q => Cond.stringRef q.1 q.2.1 q.2.2), w ∈ lw_tbl := in_places [359, 403, 483, 484, 487, 502, 503, 542, 760, 761, 763, 625, 634, 682, 687, 393, 500, 541, 615, 476, 741, 602] (by decide +kernel)
abbrev kFlat : List Cond := flatC (Jvm.Cond.and given_1 narrow_1)
set_option maxRecDepth 100000 in
theorem kStr_ex : ∀ w ∈ kStr.map (fun q => Cond.exactly (.string q.1 q.2.1) "java/lang/String"), w ∈ kFlat := in_places [64, 110, 159, 186, 216, 304, 328, 399, 704, 747, 810, 508, 545, 582, 620, 86, 273, 360, 470, 132, 659, 432] (by decide +kernel)
theorem kXX_at {a0 : Array Value} {s : State} (hts : ∀ w ∈ lw_tbl, w.before a0 s = true) (hfl : ∀ w ∈ kFlat, w.before a0 s = true) : kXX s.heap.size s := by
  have hA : ∀ a : Nat, a < s.heap.size → ¬ (fun q => s.heap.size ≤ q) a := fun a h h2 => Nat.lt_irrefl _ (Nat.lt_of_lt_of_le h h2)
  refine ⟨fun w hw => kxW_on w hw a0 s (hts w (kxW_in w hw)), fun q hq => ?_, ?_, ?_, trivial⟩
  · have h1 := hts _ (kStr_in _ (List.mem_map.mpr ⟨q, hq, rfl⟩))
    have h2 := hfl _ (kStr_ex _ (List.mem_map.mpr ⟨q, hq, rfl⟩))
    obtain ⟨a, c, cA, kA, q1, -⟩ := Cond.exactly_spec (args := a0) (first := s) (o := none) (s := s) (idx := []) h2
    exact ⟨a, vk_R.of h1 q1⟩
  · exact vx_Zqof (hts (.laysStatic "java/lang/Throwable" "UNASSIGNED_STACK" "[Ljava/lang/StackTraceElement;") (List.mem_of_getElem? (i := 345) (by decide +kernel))) (hts (.initialized "java/lang/Throwable") (List.mem_of_getElem? (i := 31) (by decide +kernel))) (hfl (.isRef (.static "java/lang/Throwable" "UNASSIGNED_STACK" "[Ljava/lang/StackTraceElement;")) (List.mem_of_getElem? (i := 62) (by decide +kernel))) hA
  · exact vx_Zqof (hts (.laysStatic "java/lang/Throwable" "SUPPRESSED_SENTINEL" "Ljava/util/List;") (List.mem_of_getElem? (i := 347) (by decide +kernel))) (hts (.initialized "java/lang/Throwable") (List.mem_of_getElem? (i := 31) (by decide +kernel))) (hfl (.isRef (.static "java/lang/Throwable" "SUPPRESSED_SENTINEL" "Ljava/util/List;")) (List.mem_of_getElem? (i := 63) (by decide +kernel))) hA
theorem kKn_at {a0 : Array Value} {s : State} (hts : ∀ w ∈ lw_tbl, w.before a0 s = true) : ∃ (dC : Nat → ClassId) (dI : Nat → Nat → Nat), ∀ (k : Nat) (q : vw_C), kCl[k]? = some q → u_Kn s q.1 q.2.1 q.2.2 (dC k) (dI k) := by
  obtain ⟨c0, i0, h0⟩ := u_known (C := RX0) (T := TX0) (N := 10) (n := 10) hts (in_places [438, 440, 442, 444, 446, 448, 450, 452, 454, 456] (by decide +kernel)) (hts (.instantiable "Bijectory$Chart" 10) (List.mem_of_getElem? (i := 410) (by decide +kernel)))
  obtain ⟨c1, i1, h1⟩ := u_known (C := RX1) (T := TX1) (N := 5) (n := 5) hts (in_places [558, 560, 562, 564, 566] (by decide +kernel)) (hts (.instantiable "Bijectory$Claim" 5) (List.mem_of_getElem? (i := 543) (by decide +kernel)))
  obtain ⟨c2, i2, h2⟩ := u_known (C := RX4) (T := TX4) (N := 6) (n := 6) hts (in_places [103, 105, 107, 109, 111, 113] (by decide +kernel)) (hts (.instantiable "Bijectory$Realm" 6) (List.mem_of_getElem? (i := 83) (by decide +kernel)))
  obtain ⟨c3, i3, h3⟩ := u_known (C := RX6) (T := TX6) (N := 2) (n := 2) hts (in_places [66, 68] (by decide +kernel)) (hts (.instantiable "Bijectory$Survey" 2) (List.mem_of_getElem? (i := 51) (by decide +kernel)))
  obtain ⟨c4, i4, h4⟩ := u_known (C := RX8) (T := TX8) (N := 6) (n := 6) hts (in_places [521, 523, 525, 527, 529, 531] (by decide +kernel)) (hts (.instantiable "Bijectory$Walker" 6) (List.mem_of_getElem? (i := 504) (by decide +kernel)))
  obtain ⟨c5, i5, h5⟩ := u_known (C := RX9) (T := TX9) (N := 11) (n := 11) hts (in_places [291, 293, 295, 297, 299, 301, 303, 305, 307, 309, 311] (by decide +kernel)) (hts (.instantiable "Bijectory" 11) (List.mem_of_getElem? (i := 41) (by decide +kernel)))
  refine ⟨fun k => if k = 0 then c0 else if k = 1 then c1 else if k = 2 then c2 else if k = 3 then c3 else if k = 4 then c4 else c5, fun k => if k = 0 then i0 else if k = 1 then i1 else if k = 2 then i2 else if k = 3 then i3 else if k = 4 then i4 else i5, ?_⟩
  intro k q hq
  match k, hq with
  | 0, hq => cases hq; exact h0
  | 1, hq => cases hq; exact h1
  | 2, hq => cases hq; exact h2
  | 3, hq => cases hq; exact h3
  | 4, hq => cases hq; exact h4
  | 5, hq => cases hq; exact h5
  | k + 6, hq => simp [kCl] at hq
theorem kT_at0 {a0 : Array Value} {s : State} (hts : ∀ w ∈ lw_tbl, w.before a0 s = true) (hfl : ∀ w ∈ kFlat, w.before a0 s = true) : ∃ t : Nat, va_T .int t 11 (fun j => .int (([0, 0, 1, 1, 0, 0, 1, 2, 2, 2, 2] : List Int32).getD j 0)) (fun q => s.heap.size ≤ q) s s.heap ∧ va_Z "Bijectory" "STEP_FROM" "[I" (.ref t) (fun q => s.heap.size ≤ q) s s.heap := by
  have hA : ∀ a : Nat, a < s.heap.size → ¬ (fun q => s.heap.size ≤ q) a := fun a h h2 => Nat.lt_irrefl _ (Nat.lt_of_lt_of_le h h2)
  have hel : ∀ j : Nat, j < 11 → (Term.elem (.static "Bijectory" "STEP_FROM" "[I") (.int (Int32.ofNat j))).eval a0 s none [] s = some (.int (([0, 0, 1, 1, 0, 0, 1, 2, 2, 2, 2] : List Int32).getD j 0)) := lt_s (lt_s (lt_s (lt_s (lt_s (lt_s (lt_s (lt_s (lt_s (lt_s (lt_s (lt_0) (va_eqt (hfl (.eq (.elem (.static "Bijectory" "STEP_FROM" "[I") (.int 0)) (.int 0)) (List.mem_of_getElem? (i := 27) (by decide +kernel))))) (va_eqt (hfl (.eq (.elem (.static "Bijectory" "STEP_FROM" "[I") (.int 1)) (.int 0)) (List.mem_of_getElem? (i := 28) (by decide +kernel))))) (va_eqt (hfl (.eq (.elem (.static "Bijectory" "STEP_FROM" "[I") (.int 2)) (.int 1)) (List.mem_of_getElem? (i := 29) (by decide +kernel))))) (va_eqt (hfl (.eq (.elem (.static "Bijectory" "STEP_FROM" "[I") (.int 3)) (.int 1)) (List.mem_of_getElem? (i := 30) (by decide +kernel))))) (va_eqt (hfl (.eq (.elem (.static "Bijectory" "STEP_FROM" "[I") (.int 4)) (.int 0)) (List.mem_of_getElem? (i := 31) (by decide +kernel))))) (va_eqt (hfl (.eq (.elem (.static "Bijectory" "STEP_FROM" "[I") (.int 5)) (.int 0)) (List.mem_of_getElem? (i := 32) (by decide +kernel))))) (va_eqt (hfl (.eq (.elem (.static "Bijectory" "STEP_FROM" "[I") (.int 6)) (.int 1)) (List.mem_of_getElem? (i := 33) (by decide +kernel))))) (va_eqt (hfl (.eq (.elem (.static "Bijectory" "STEP_FROM" "[I") (.int 7)) (.int 2)) (List.mem_of_getElem? (i := 34) (by decide +kernel))))) (va_eqt (hfl (.eq (.elem (.static "Bijectory" "STEP_FROM" "[I") (.int 8)) (.int 2)) (List.mem_of_getElem? (i := 35) (by decide +kernel))))) (va_eqt (hfl (.eq (.elem (.static "Bijectory" "STEP_FROM" "[I") (.int 9)) (.int 2)) (List.mem_of_getElem? (i := 36) (by decide +kernel))))) (va_eqt (hfl (.eq (.elem (.static "Bijectory" "STEP_FROM" "[I") (.int 10)) (.int 2)) (List.mem_of_getElem? (i := 37) (by decide +kernel))))
  obtain ⟨t, h1, h2⟩ := va_Tof (N := 11) (by decide) (hfl (.arrayOf (.static "Bijectory" "STEP_FROM" "[I") .int) (List.mem_of_getElem? (i := 25) (by decide +kernel))) (va_eqt (hfl (.eq (.length (.static "Bijectory" "STEP_FROM" "[I")) (.int 11)) (List.mem_of_getElem? (i := 26) (by decide +kernel)))) hel hA
  exact ⟨t, h2, va_Zref (hts (.laysStatic "Bijectory" "STEP_FROM" "[I") (List.mem_of_getElem? (i := 146) (by decide +kernel))) (hts (.initialized "Bijectory") (List.mem_of_getElem? (i := 23) (by decide +kernel))) h1 hA⟩
theorem kT_at1 {a0 : Array Value} {s : State} (hts : ∀ w ∈ lw_tbl, w.before a0 s = true) (hfl : ∀ w ∈ kFlat, w.before a0 s = true) : ∃ t : Nat, va_T .int t 11 (fun j => .int (([1, 1, 0, 1, 0, 0, 2, 1, 2, 2, 2] : List Int32).getD j 0)) (fun q => s.heap.size ≤ q) s s.heap ∧ va_Z "Bijectory" "STEP_TO" "[I" (.ref t) (fun q => s.heap.size ≤ q) s s.heap := by
  have hA : ∀ a : Nat, a < s.heap.size → ¬ (fun q => s.heap.size ≤ q) a := fun a h h2 => Nat.lt_irrefl _ (Nat.lt_of_lt_of_le h h2)
  have hel : ∀ j : Nat, j < 11 → (Term.elem (.static "Bijectory" "STEP_TO" "[I") (.int (Int32.ofNat j))).eval a0 s none [] s = some (.int (([1, 1, 0, 1, 0, 0, 2, 1, 2, 2, 2] : List Int32).getD j 0)) := lt_s (lt_s (lt_s (lt_s (lt_s (lt_s (lt_s (lt_s (lt_s (lt_s (lt_s (lt_0) (va_eqt (hfl (.eq (.elem (.static "Bijectory" "STEP_TO" "[I") (.int 0)) (.int 1)) (List.mem_of_getElem? (i := 41) (by decide +kernel))))) (va_eqt (hfl (.eq (.elem (.static "Bijectory" "STEP_TO" "[I") (.int 1)) (.int 1)) (List.mem_of_getElem? (i := 42) (by decide +kernel))))) (va_eqt (hfl (.eq (.elem (.static "Bijectory" "STEP_TO" "[I") (.int 2)) (.int 0)) (List.mem_of_getElem? (i := 43) (by decide +kernel))))) (va_eqt (hfl (.eq (.elem (.static "Bijectory" "STEP_TO" "[I") (.int 3)) (.int 1)) (List.mem_of_getElem? (i := 44) (by decide +kernel))))) (va_eqt (hfl (.eq (.elem (.static "Bijectory" "STEP_TO" "[I") (.int 4)) (.int 0)) (List.mem_of_getElem? (i := 45) (by decide +kernel))))) (va_eqt (hfl (.eq (.elem (.static "Bijectory" "STEP_TO" "[I") (.int 5)) (.int 0)) (List.mem_of_getElem? (i := 46) (by decide +kernel))))) (va_eqt (hfl (.eq (.elem (.static "Bijectory" "STEP_TO" "[I") (.int 6)) (.int 2)) (List.mem_of_getElem? (i := 47) (by decide +kernel))))) (va_eqt (hfl (.eq (.elem (.static "Bijectory" "STEP_TO" "[I") (.int 7)) (.int 1)) (List.mem_of_getElem? (i := 48) (by decide +kernel))))) (va_eqt (hfl (.eq (.elem (.static "Bijectory" "STEP_TO" "[I") (.int 8)) (.int 2)) (List.mem_of_getElem? (i := 49) (by decide +kernel))))) (va_eqt (hfl (.eq (.elem (.static "Bijectory" "STEP_TO" "[I") (.int 9)) (.int 2)) (List.mem_of_getElem? (i := 50) (by decide +kernel))))) (va_eqt (hfl (.eq (.elem (.static "Bijectory" "STEP_TO" "[I") (.int 10)) (.int 2)) (List.mem_of_getElem? (i := 51) (by decide +kernel))))
  obtain ⟨t, h1, h2⟩ := va_Tof (N := 11) (by decide) (hfl (.arrayOf (.static "Bijectory" "STEP_TO" "[I") .int) (List.mem_of_getElem? (i := 39) (by decide +kernel))) (va_eqt (hfl (.eq (.length (.static "Bijectory" "STEP_TO" "[I")) (.int 11)) (List.mem_of_getElem? (i := 40) (by decide +kernel)))) hel hA
  exact ⟨t, h2, va_Zref (hts (.laysStatic "Bijectory" "STEP_TO" "[I") (List.mem_of_getElem? (i := 148) (by decide +kernel))) (hts (.initialized "Bijectory") (List.mem_of_getElem? (i := 23) (by decide +kernel))) h1 hA⟩
theorem kT_at2 {a0 : Array Value} {s : State} (hts : ∀ w ∈ lw_tbl, w.before a0 s = true) (hfl : ∀ w ∈ kFlat, w.before a0 s = true) : ∃ t : Nat, va_T .int t 7 (fun j => .int (([1, 1, 2, 5, 14, 42, 132] : List Int32).getD j 0)) (fun q => s.heap.size ≤ q) s s.heap ∧ va_Z "Bijectory" "PATH_COUNTS" "[I" (.ref t) (fun q => s.heap.size ≤ q) s s.heap := by
  have hA : ∀ a : Nat, a < s.heap.size → ¬ (fun q => s.heap.size ≤ q) a := fun a h h2 => Nat.lt_irrefl _ (Nat.lt_of_lt_of_le h h2)
  have hel : ∀ j : Nat, j < 7 → (Term.elem (.static "Bijectory" "PATH_COUNTS" "[I") (.int (Int32.ofNat j))).eval a0 s none [] s = some (.int (([1, 1, 2, 5, 14, 42, 132] : List Int32).getD j 0)) := lt_s (lt_s (lt_s (lt_s (lt_s (lt_s (lt_s (lt_0) (va_eqt (hfl (.eq (.elem (.static "Bijectory" "PATH_COUNTS" "[I") (.int 0)) (.int 1)) (List.mem_of_getElem? (i := 17) (by decide +kernel))))) (va_eqt (hfl (.eq (.elem (.static "Bijectory" "PATH_COUNTS" "[I") (.int 1)) (.int 1)) (List.mem_of_getElem? (i := 18) (by decide +kernel))))) (va_eqt (hfl (.eq (.elem (.static "Bijectory" "PATH_COUNTS" "[I") (.int 2)) (.int 2)) (List.mem_of_getElem? (i := 19) (by decide +kernel))))) (va_eqt (hfl (.eq (.elem (.static "Bijectory" "PATH_COUNTS" "[I") (.int 3)) (.int 5)) (List.mem_of_getElem? (i := 20) (by decide +kernel))))) (va_eqt (hfl (.eq (.elem (.static "Bijectory" "PATH_COUNTS" "[I") (.int 4)) (.int 14)) (List.mem_of_getElem? (i := 21) (by decide +kernel))))) (va_eqt (hfl (.eq (.elem (.static "Bijectory" "PATH_COUNTS" "[I") (.int 5)) (.int 42)) (List.mem_of_getElem? (i := 22) (by decide +kernel))))) (va_eqt (hfl (.eq (.elem (.static "Bijectory" "PATH_COUNTS" "[I") (.int 6)) (.int 132)) (List.mem_of_getElem? (i := 23) (by decide +kernel))))
  obtain ⟨t, h1, h2⟩ := va_Tof (N := 7) (by decide) (hfl (.arrayOf (.static "Bijectory" "PATH_COUNTS" "[I") .int) (List.mem_of_getElem? (i := 15) (by decide +kernel))) (va_eqt (hfl (.eq (.length (.static "Bijectory" "PATH_COUNTS" "[I")) (.int 7)) (List.mem_of_getElem? (i := 16) (by decide +kernel)))) hel hA
  exact ⟨t, h2, va_Zref (hts (.laysStatic "Bijectory" "PATH_COUNTS" "[I") (List.mem_of_getElem? (i := 89) (by decide +kernel))) (hts (.initialized "Bijectory") (List.mem_of_getElem? (i := 23) (by decide +kernel))) h1 hA⟩
theorem kT_at3 {a0 : Array Value} {s : State} (hts : ∀ w ∈ lw_tbl, w.before a0 s = true) (hfl : ∀ w ∈ kFlat, w.before a0 s = true) : ∃ t : Nat, va_T .int t 7 (fun j => .int (([1, 1, 2, 6, 24, 120, 720] : List Int32).getD j 0)) (fun q => s.heap.size ≤ q) s s.heap ∧ va_Z "Bijectory" "ORDER_COUNTS" "[I" (.ref t) (fun q => s.heap.size ≤ q) s s.heap := by
  have hA : ∀ a : Nat, a < s.heap.size → ¬ (fun q => s.heap.size ≤ q) a := fun a h h2 => Nat.lt_irrefl _ (Nat.lt_of_lt_of_le h h2)
  have hel : ∀ j : Nat, j < 7 → (Term.elem (.static "Bijectory" "ORDER_COUNTS" "[I") (.int (Int32.ofNat j))).eval a0 s none [] s = some (.int (([1, 1, 2, 6, 24, 120, 720] : List Int32).getD j 0)) := lt_s (lt_s (lt_s (lt_s (lt_s (lt_s (lt_s (lt_0) (va_eqt (hfl (.eq (.elem (.static "Bijectory" "ORDER_COUNTS" "[I") (.int 0)) (.int 1)) (List.mem_of_getElem? (i := 7) (by decide +kernel))))) (va_eqt (hfl (.eq (.elem (.static "Bijectory" "ORDER_COUNTS" "[I") (.int 1)) (.int 1)) (List.mem_of_getElem? (i := 8) (by decide +kernel))))) (va_eqt (hfl (.eq (.elem (.static "Bijectory" "ORDER_COUNTS" "[I") (.int 2)) (.int 2)) (List.mem_of_getElem? (i := 9) (by decide +kernel))))) (va_eqt (hfl (.eq (.elem (.static "Bijectory" "ORDER_COUNTS" "[I") (.int 3)) (.int 6)) (List.mem_of_getElem? (i := 10) (by decide +kernel))))) (va_eqt (hfl (.eq (.elem (.static "Bijectory" "ORDER_COUNTS" "[I") (.int 4)) (.int 24)) (List.mem_of_getElem? (i := 11) (by decide +kernel))))) (va_eqt (hfl (.eq (.elem (.static "Bijectory" "ORDER_COUNTS" "[I") (.int 5)) (.int 120)) (List.mem_of_getElem? (i := 12) (by decide +kernel))))) (va_eqt (hfl (.eq (.elem (.static "Bijectory" "ORDER_COUNTS" "[I") (.int 6)) (.int 720)) (List.mem_of_getElem? (i := 13) (by decide +kernel))))
  obtain ⟨t, h1, h2⟩ := va_Tof (N := 7) (by decide) (hfl (.arrayOf (.static "Bijectory" "ORDER_COUNTS" "[I") .int) (List.mem_of_getElem? (i := 5) (by decide +kernel))) (va_eqt (hfl (.eq (.length (.static "Bijectory" "ORDER_COUNTS" "[I")) (.int 7)) (List.mem_of_getElem? (i := 6) (by decide +kernel)))) hel hA
  exact ⟨t, h2, va_Zref (hts (.laysStatic "Bijectory" "ORDER_COUNTS" "[I") (List.mem_of_getElem? (i := 57) (by decide +kernel))) (hts (.initialized "Bijectory") (List.mem_of_getElem? (i := 23) (by decide +kernel))) h1 hA⟩
theorem kT_at4 {a0 : Array Value} {s : State} (hts : ∀ w ∈ lw_tbl, w.before a0 s = true) (hfl : ∀ w ∈ kFlat, w.before a0 s = true) : ∃ t : Nat, va_T .int t 7 (fun j => .int (([1, 10, 100, 1000, 10000, 100000, 1000000] : List Int32).getD j 0)) (fun q => s.heap.size ≤ q) s s.heap ∧ va_Z "Bijectory" "TENS" "[I" (.ref t) (fun q => s.heap.size ≤ q) s s.heap := by
  have hA : ∀ a : Nat, a < s.heap.size → ¬ (fun q => s.heap.size ≤ q) a := fun a h h2 => Nat.lt_irrefl _ (Nat.lt_of_lt_of_le h h2)
  have hel : ∀ j : Nat, j < 7 → (Term.elem (.static "Bijectory" "TENS" "[I") (.int (Int32.ofNat j))).eval a0 s none [] s = some (.int (([1, 10, 100, 1000, 10000, 100000, 1000000] : List Int32).getD j 0)) := lt_s (lt_s (lt_s (lt_s (lt_s (lt_s (lt_s (lt_0) (va_eqt (hfl (.eq (.elem (.static "Bijectory" "TENS" "[I") (.int 0)) (.int 1)) (List.mem_of_getElem? (i := 55) (by decide +kernel))))) (va_eqt (hfl (.eq (.elem (.static "Bijectory" "TENS" "[I") (.int 1)) (.int 10)) (List.mem_of_getElem? (i := 56) (by decide +kernel))))) (va_eqt (hfl (.eq (.elem (.static "Bijectory" "TENS" "[I") (.int 2)) (.int 100)) (List.mem_of_getElem? (i := 57) (by decide +kernel))))) (va_eqt (hfl (.eq (.elem (.static "Bijectory" "TENS" "[I") (.int 3)) (.int 1000)) (List.mem_of_getElem? (i := 58) (by decide +kernel))))) (va_eqt (hfl (.eq (.elem (.static "Bijectory" "TENS" "[I") (.int 4)) (.int 10000)) (List.mem_of_getElem? (i := 59) (by decide +kernel))))) (va_eqt (hfl (.eq (.elem (.static "Bijectory" "TENS" "[I") (.int 5)) (.int 100000)) (List.mem_of_getElem? (i := 60) (by decide +kernel))))) (va_eqt (hfl (.eq (.elem (.static "Bijectory" "TENS" "[I") (.int 6)) (.int 1000000)) (List.mem_of_getElem? (i := 61) (by decide +kernel))))
  obtain ⟨t, h1, h2⟩ := va_Tof (N := 7) (by decide) (hfl (.arrayOf (.static "Bijectory" "TENS" "[I") .int) (List.mem_of_getElem? (i := 53) (by decide +kernel))) (va_eqt (hfl (.eq (.length (.static "Bijectory" "TENS" "[I")) (.int 7)) (List.mem_of_getElem? (i := 54) (by decide +kernel)))) hel hA
  exact ⟨t, h2, va_Zref (hts (.laysStatic "Bijectory" "TENS" "[I") (List.mem_of_getElem? (i := 207) (by decide +kernel))) (hts (.initialized "Bijectory") (List.mem_of_getElem? (i := 23) (by decide +kernel))) h1 hA⟩
theorem kKK_at {a0 : Array Value} {s : State} (hts : ∀ w ∈ lw_tbl, w.before a0 s = true) (hfl : ∀ w ∈ kFlat, w.before a0 s = true) {b L : Nat} {xs : Nat → Int32} (hL : L < 2 ^ 31) (hX : va_X b L xs s s.heap) (hb : b < s.heap.size) : ∃ (E : kE) (σ : List Nat), kcl E = kCl ∧ kn E = 6 ∧ ktb E = kT7 ++ [(List.range L).map xs] ∧ kb E = s.heap.size ∧ σ[5]? = some b ∧ σ.length = 6 ∧ kKK E (kXX (kb E)) σ kZs s := by
  obtain ⟨dC, dI, hKc⟩ := kKn_at hts
  obtain ⟨t0, hT0, hZ0⟩ := kT_at0 hts hfl
  obtain ⟨t1, hT1, hZ1⟩ := kT_at1 hts hfl
  obtain ⟨t2, hT2, hZ2⟩ := kT_at2 hts hfl
  obtain ⟨t3, hT3, hZ3⟩ := kT_at3 hts hfl
  obtain ⟨t4, hT4, hZ4⟩ := kT_at4 hts hfl
  refine ⟨(kCl, dC, dI, s.heap.size, kT7 ++ [(List.range L).map xs]), [t0, t1, t2, t3, t4, b], rfl, rfl, rfl, rfl, rfl, rfl, ⟨(show kCl.length ≤ 100 by decide), rfl, Nat.le_refl _⟩, hKc, ?_, ?_, kXX_at hts hfl⟩
  · intro k a t ha ht
    match k, ha, ht with
    | 0, ha, ht => cases ha; cases ht; exact hT0
    | 1, ha, ht => cases ha; cases ht; exact hT1
    | 2, ha, ht => cases ha; cases ht; exact hT2
    | 3, ha, ht => cases ha; cases ht; exact hT3
    | 4, ha, ht => cases ha; cases ht; exact hT4
    | 5, ha, ht =>
      cases ha
      cases ht
      obtain ⟨scr, g1, g2, g3, g4, g5⟩ := hX
      have e1 : ((List.range L).map xs).length = L := by rw [List.length_map, List.length_range]
      refine ⟨scr, g1, g2, g3, by rw [e1, g4]; exact Nat.le_refl _, by rw [e1, g4], fun j hj => ?_, Nat.not_le.mpr hb⟩
      rw [e1] at hj
      rw [g5 j hj]
      congr 2
      rw [List.getD_eq_getElem?_getD, List.getElem?_map, List.getElem?_range hj]
      rfl
    | k + 6, ha, ht => simp at ha
  · intro z hz
    exact (show ∀ z ∈ kZs, ∃ a, ([t0, t1, t2, t3, t4, b] : List Nat)[z.2.2]? = some a ∧ va_Z z.1 z.2.1 "[I" (.ref a) (fun q => s.heap.size ≤ q) s s.heap from List.forall_mem_cons.mpr ⟨⟨t0, rfl, hZ0⟩, List.forall_mem_cons.mpr ⟨⟨t1, rfl, hZ1⟩, List.forall_mem_cons.mpr ⟨⟨t2, rfl, hZ2⟩, List.forall_mem_cons.mpr ⟨⟨t3, rfl, hZ3⟩, List.forall_mem_cons.mpr ⟨⟨t4, rfl, hZ4⟩, fun _ h => by cases h⟩⟩⟩⟩⟩) z hz
