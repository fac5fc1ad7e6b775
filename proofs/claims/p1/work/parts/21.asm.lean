/-! ===== from the law's function to the walk of its body ===== -/
theorem ag_conseq {p : Program} {l : Launch} {e : Env} {R : Room} {s : State} {m : MethodId} {args : Array Value} {below : List Frame} {meth : Method} {c : Code} {H : Heap} {locs : List Loc} {ce sl : Nat} {g : JFrame} {Q1 Q2 : State → Prop} (hQ : ∀ t, Q1 t → Q2 t) (k : W p l e R s m args below meth c H locs ce sl Q1 g) : W p l e R s m args below meth c H locs ce sl Q2 g := fun T hT X => by
  obtain ⟨t, h1, h2⟩ := k T hT X
  exact ⟨t, h1, hQ t h2⟩
theorem ag_frame {s t : State} {L : List Loc} {k n k2 n2 : Nat} (h : s.sameButNew ({ t with vm := s.vm } : State) L k n) (hL : ∀ q ∈ L, s.heap.size ≤ q.base) (hk : k ≤ k2) (hn : n ≤ n2) : s.sameButNew ({ t with vm := s.vm } : State) [] k2 n2 := by
  obtain ⟨e1, e2, e3, e4, e5, e6⟩ := h
  refine ⟨e1, e2, Nat.le_trans e3 (by omega), e4, Nat.le_trans e5 hn, fun a c hc => ?_⟩
  obtain ⟨c', g1, g2, g3, g4⟩ := e6 a c hc
  refine ⟨c', g1, g2, g3, fun i _ => g4 i fun hm => ?_⟩
  have h1 := hL _ hm
  have h2 := (Array.getElem?_eq_some_iff.mp hc).1
  exact Nat.lt_irrefl _ (Nat.lt_of_lt_of_le h2 h1)
theorem ag_end {s t : State} {b : Addr} {below : List Frame} {E : kE} {α0 : List Nat} {hs : kHS} (hb : kb E = s.heap.size) (hnc : hs.2.1 ≤ room_1.cells) (hns : hs.2.2 ≤ room_1.slots) (h : kQ E below #[Value.ref b] s α0 0 0 (.inl (some (.int 1)), hs) t) : lw_Z below #[Value.ref b] s t := by
  obtain ⟨o, h1, h2, h3⟩ := h
  rcases h3 with ⟨⟨⟨α, vo, wo, hp, hv, ho, hc, hR⟩, hF⟩, L, hfe, hL⟩ | ⟨q, ho, Ex, ce, L, ⟨⟨α, k, hp, hv, hE, hR⟩, hF⟩, hrest⟩
  · cases hv
    cases hc
    subst ho
    obtain ⟨-, hW, hsm⟩ := hfe
    rw [hb] at hL
    exact ⟨_, h1, h2, rfl, lw_closed (d0 := s.drawn) (Drawn.sameBut.refl s.drawn lw_cs) ⟨_, rfl⟩ hW (ag_frame hsm hL hnc hns)⟩
  · cases hv
theorem ag_law {p : Program} {e : Env} {s : State} {m : MethodId} {below : List Frame} {meth : Method} {c : Code} (l : Launch) (hflags : l.flags = flags0) {b L : Nat} {xs : Nat → Int32} (hL : L ≤ 5) (C0 : lw_At p s m meth c b L xs) (hnm : meth.name = yL_law.name) (htab : ∀ x ∈ c.exceptionTable.toList, False) {hs : kHS} {D : Nat} (hD : D ≤ 1000) (hnc : hs.2.1 ≤ room_1.cells) (hns : hs.2.2 ≤ room_1.slots) (hk : kEv (kM (tbx ((List.range L).map xs))) kML 220 D [rv 8] ([], 0, 0) (.inl (some (.int 1)), hs)) : W p l e room_1 s m #[Value.ref b] below meth c s.heap [] 0 0 (lw_Z below #[Value.ref b] s) (entryFrame m ([Value.ref b] : List Value).toArray 9) := by
  obtain ⟨hx, hbc, hr, hml, hown, hts, hX, hbl, hlocks, hgv⟩ := id C0
  have hfl : ∀ w ∈ kFlat, w.before #[Value.ref b] s = true := flat_of_before _ hgv
  obtain ⟨E, σ, hE, hn, htb, hbE, hσb, hσl, hKK⟩ := kKK_at hts hfl (by omega) hX hbl
  obtain ⟨F, hk⟩ := hk
  have hk := hk F (Nat.le_refl _) (D + 1) (by omega)
  rw [kcall] at hk
  dsimp only at hk
  have hst := kXX_stab (kb E) σ
  have hflg : l.stackTraces = false := by
    rw [Launch.stackTraces, hflags]
    decide
  cases hz : Nat.ble (ksz [rv 8]) (kML 220) with
  | false => rw [hz] at hk; cases hk
  | true =>
  rw [hz] at hk
  simp only [cond_true] at hk
  split at hk
  · rename_i r1 hr1
    cases hb2 : (Nat.ble 0 r1.2.2.1 && Nat.ble 0 r1.2.2.2) with
    | false => rw [hb2] at hk; cases hk
    | true =>
    rw [hb2] at hk
    cases hk
    have hS := kmach_ok (F := F) (l := l) (σ := σ) hE hn htb hst hflg D
    rw [← htb] at hr1 hS
    have C : kCx E (kXX (kb E) σ) σ kZs p l e room_1 s m #[Value.ref b] below meth c σ cL_law 9 0 0 (.inl (some (.int 1)), hs) yL_law.cls ((Jvm.Cond.and given_1 narrow_1) :: kG) := ⟨hx, hbc, hml, hown, fun w hw => by
      rcases List.mem_cons.mp hw with rfl | hw
      · exact hgv
      · exact hts w (List.mem_filter.mp hw).1, hlocks, hKK, hst, List.prefix_refl _, hflg, hnc, hns, by decide, by decide⟩
    obtain ⟨pcs, hp0, hch⟩ := mok_L_law (c0 := Jvm.Cond.and given_1 narrow_1) hE hn rfl D _ hS p e room_1 s m #[Value.ref b] below meth c σ 0 0 _ C (by show D + 9 ≤ 2048; omega) (by show 40 * D + 190 ≤ 84000; omega) hr hnm htab
    obtain ⟨-, k⟩ := run_ok hch F 0 _ hr1
    have hl := lv_entry ([.ref b]) (n := 9) (Nat.le_of_ble_eq_true rfl)
    rw [lg_entry_eq]
    have k2 := k σ s.heap [] _ [(0, .ref b)] [] (List.prefix_refl _) ⟨by rw [hσl, hn]; rfl, fun i j a hi hj h1 h2 => by have := (List.getElem?_eq_some_iff.mp h1).1; omega, fun k c hc => by simp at hc⟩ va_S.rf (kvL_mk (kv_ref hσb) rfl) hl rfl (Nat.le_refl _) (Nat.le_refl _)
    rw [hp0] at k2
    exact ag_conseq (fun t ht => ag_end hbE hnc hns ht) k2
  · cases hk
