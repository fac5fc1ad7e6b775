/-! ===== a new size's rows before they are filled ===== -/
theorem app_at {α : Type} (H T : List α) (x : α) : (H ++ x :: T)[H.length]? = some x := by
  rw [List.getElem?_append_right (Nat.le_refl _), Nat.sub_self]
  rfl
theorem app_set {α : Type} (H T : List α) (x y : α) : (H ++ x :: T).set H.length y = H ++ y :: T := by
  rw [List.set_append_right _ _ (Nat.le_refl _), Nat.sub_self]
  rfl
theorem app_lt {α : Type} {H T : List α} {q : Nat} (h : q < H.length) : (H ++ T)[q]? = H[q]? := List.getElem?_append_left h
theorem app_ge {α : Type} (H T : List α) (x : α) (j : Nat) : (H ++ x :: T)[H.length + 1 + j]? = T[j]? := by
  rw [List.getElem?_append_right (by omega), show H.length + 1 + j - H.length = j + 1 by omega, List.getElem?_cons_succ]
theorem dnewa_s {n tag i : Nat} {h : List kCel} {c : Nat × Nat} (hi : i ≤ 1000) : dnewa n tag i (h, c) = some (n + h.length + 1, (h ++ [(tag, List.replicate i (kdef tag))], c.1 + 1, c.2 + i)) := by
  unfold dnewa
  rw [wpos_s (by omega), show Nat.mod i 4294967296 = i from Nat.mod_eq_of_lt (by omega), show Nat.ble i 1000000 = true from Nat.ble_eq.mpr (by omega), Bool.and_self, cond_true]
theorem dmna_s {n i j : Nat} {h : List kCel} {c : Nat × Nat} (hi : i ≤ 1000) (hj : j ≤ 1000) : dmna n i j (h, c) = some (n + h.length + 1, (h ++ ((104, (List.range i).map (fun j => Value.ref (n + h.length + 1 + j))) :: List.replicate i (100, List.replicate j (.int 0))), c.1 + 1 + i, c.2 + i + i * j)) := by
  unfold dmna
  rw [wpos_s (by omega), wpos_s (by omega), show Nat.mod i 4294967296 = i from Nat.mod_eq_of_lt (by omega), show Nat.mod j 4294967296 = j from Nat.mod_eq_of_lt (by omega), show Nat.ble i 1000 = true from Nat.ble_eq.mpr hi, show Nat.ble j 1000 = true from Nat.ble_eq.mpr hj, Bool.and_self, Bool.and_self, cond_true]
theorem dput_app {H T : List kCel} {c : Nat × Nat} {ci k : Nat} {ty : FieldType} {vs : List Value} {v : Value} (hk : k < vs.length) (hv : kfit ty v = true) : dput nS ci k ty (H ++ (ci, vs) :: T, c) (ad H.length) v = some (H ++ (ci, vs.set k v) :: T, c) := by
  rw [dput_ad (hs := (H ++ (ci, vs) :: T, c)) (app_at H T (ci, vs)) hk hv]
  dsimp only
  rw [app_set]
theorem ints_zs (k : Nat) : ints (List.replicate k 0) = List.replicate k (.int 0) := by
  unfold ints
  rw [List.map_replicate]
  rfl
theorem refs_rng (a k : Nat) : refs (rng a k) = (List.range k).map (fun j => Value.ref (nS + a + j)) := by
  unfold refs rng
  rw [List.map_map]
  apply List.map_congr_left
  intro j _
  show Value.ref (nS + (a + j)) = Value.ref (nS + a + j)
  rw [Nat.add_assoc]
theorem sm_zs (k : Nat) : sm (List.replicate k 0) := fun x hx => by
  rw [(List.mem_replicate.mp hx).2]
  decide
theorem wmax0 {a : Nat} (h : a < 2147483648) : wmax a 0 = a := by
  unfold wmax
  rw [wlt_s h (by decide), decide_eq_false (by omega), cond_false]
theorem rep_at {α : Type} {x : α} {k s : Nat} {T : List α} (h : s < k) : (List.replicate k x ++ T)[s]? = some x := by
  rw [List.getElem?_append_left (by simpa using h), List.getElem?_replicate, if_pos h]
theorem rep_ge {α : Type} {x : α} {k j : Nat} {T : List α} : (List.replicate k x ++ T)[k + j]? = T[j]? := by
  rw [List.getElem?_append_right (by simp), List.length_replicate, Nat.add_sub_cancel_left]
theorem realm_init {n pc oc : Nat} (d2 : dtab 2 n = some pc) (d3 : dtab 3 n = some oc) (hp : pc ≤ 1000) (ho : oc ≤ 1000) (H : List kCel) (c s : Nat) : ∃ h', f_X4_init (ad H.length) n (H ++ [(c_X4, [.int 0, .null, .null, .null, .null, .null])], (c, s)) = some (.inl (), (h', (c + 40, s + (pc + oc + 11 + 11 * oc + 12 + 12 * oc + 12 + 12 * 37)))) ∧ RealmAt h' H.length n (List.replicate pc 0) (List.replicate oc 0) (fun _ => List.replicate oc 0) (fun _ => List.replicate oc 0) (fun _ => List.replicate 37 0) ∧ h'.length = H.length + 41 ∧ ∀ q, q < H.length → h'[q]? = H[q]? := by
  unfold f_X4_init
  rw [dnn_ad, ob_s, d2, ob_s, dl_eq, wmax0 (by omega), d3, ob_s, dl_eq, wmax0 (by omega)]
  rw [dput_app (by simp) rfl, ob_s, dnewa_s hp, ob_s]
  dsimp only [List.set_cons_zero, List.set_cons_succ]
  rw [List.append_assoc, List.cons_append, List.nil_append]
  simp only [List.length_append, List.length_cons, List.length_nil, List.length_replicate]
  rw [dput_app (by simp) rfl, ob_s, dnewa_s ho, ob_s]
  dsimp only [List.set_cons_zero, List.set_cons_succ]
  rw [List.append_assoc, List.cons_append, List.cons_append, List.nil_append]
  simp only [List.length_append, List.length_cons, List.length_nil, List.length_replicate]
  rw [dput_app (by simp) rfl, ob_s, dmna_s (by decide) ho, ob_s]
  dsimp only [List.set_cons_zero, List.set_cons_succ]
  rw [List.append_assoc, List.cons_append]
  simp only [List.length_append, List.length_cons, List.length_nil, List.length_replicate]
  rw [dput_app (by simp) rfl, ob_s, dmna_s (by decide) ho, ob_s]
  dsimp only [List.set_cons_zero, List.set_cons_succ]
  rw [List.append_assoc, List.cons_append]
  simp only [List.length_append, List.length_cons, List.length_nil, List.length_replicate]
  rw [dput_app (by simp) rfl, ob_s, dmna_s (by decide) (by decide), ob_s]
  dsimp only [List.set_cons_zero, List.set_cons_succ]
  rw [List.append_assoc, List.cons_append]
  simp only [List.length_append, List.length_cons, List.length_nil, List.length_replicate]
  rw [dput_app (by simp) rfl, ob_s]
  dsimp only [List.set_cons_zero, List.set_cons_succ]
  simp only [List.append_assoc, List.cons_append, List.nil_append]
  rw [dchk_eq (by dsimp only; omega) (by dsimp only; omega)]
  have e1 : c + 1 + 1 + 1 + 11 + 1 + 12 + 1 + 12 = c + 40 := by omega
  have e2 : s + pc + oc + 11 + 11 * oc + 12 + 12 * oc + 12 + 12 * 37 = s + (pc + oc + 11 + 11 * oc + 12 + 12 * oc + 12 + 12 * 37) := by omega
  rw [e1, e2]
  have f1 : ∀ a b k : Nat, a + 1 = b → (List.range k).map (fun j => Value.ref (nS + a + 1 + j)) = refs (rng b k) := fun a b k e => by
    rw [refs_rng, ← e]
    rfl
  rw [f1 _ (H.length + 4) _ (by omega), f1 _ (H.length + 16) _ (by omega), f1 _ (H.length + 29) _ (by omega)]
  refine ⟨_, rfl, ⟨?_, ?_, ?_, ?_, ?_, ?_, ?_, ?_, ?_⟩, ?_, ?_⟩
  · rw [app_at]
    rfl
  · rw [show H.length + 1 = H.length + 1 + 0 from rfl, app_ge, ints_zs]
    rfl
  · rw [show H.length + 2 = H.length + 1 + 1 from rfl, app_ge, ints_zs]
    rfl
  · rw [show H.length + 3 = H.length + 1 + 2 from rfl, app_ge]
    rfl
  · intro s hs
    rw [show H.length + 4 + s = H.length + 1 + (s + 1 + 1 + 1) by omega, app_ge, List.getElem?_cons_succ, List.getElem?_cons_succ, List.getElem?_cons_succ, rep_at hs, ints_zs]
  · rw [show H.length + 15 = H.length + 1 + (11 + 0 + 1 + 1 + 1) from rfl, app_ge, List.getElem?_cons_succ, List.getElem?_cons_succ, List.getElem?_cons_succ]
    exact rep_ge (k := 11) (j := 0)
  · intro s hs
    rw [show H.length + 16 + s = H.length + 1 + (11 + (s + 1) + 1 + 1 + 1) by omega, app_ge, List.getElem?_cons_succ, List.getElem?_cons_succ, List.getElem?_cons_succ, rep_ge, List.getElem?_cons_succ, rep_at hs, ints_zs]
  · rw [show H.length + 28 = H.length + 1 + (11 + ((12 + 0) + 1) + 1 + 1 + 1) from rfl, app_ge, List.getElem?_cons_succ, List.getElem?_cons_succ, List.getElem?_cons_succ, rep_ge, List.getElem?_cons_succ]
    exact rep_ge (k := 12) (j := 0)
  · intro s hs
    rw [show H.length + 29 + s = H.length + 1 + (11 + ((12 + (s + 1)) + 1) + 1 + 1 + 1) by omega, app_ge, List.getElem?_cons_succ, List.getElem?_cons_succ, List.getElem?_cons_succ, rep_ge, List.getElem?_cons_succ, rep_ge, List.getElem?_cons_succ, ints_zs]
    rw [List.getElem?_replicate, if_pos hs]
  · simp only [List.length_append, List.length_cons, List.length_replicate]
  · exact fun q hq => app_lt hq
