/-! ===== Realm.of for a size whose rows are known ===== -/
def sf (s : Nat) : Nat := ([0, 0, 1, 1, 0, 0, 1, 2, 2, 2, 2] : List Nat).getD s 0
def st (s : Nat) : Nat := ([1, 1, 0, 1, 0, 0, 2, 1, 2, 2, 2] : List Nat).getD s 0
theorem d0_ok : ∀ s, s < 11 → dtab 0 s = some (sf s) := by
  have h : ∀ s : Fin 11, dtab 0 s.val = some (sf s.val) := by decide +kernel
  exact fun s hs => h ⟨s, hs⟩
theorem d1_ok : ∀ s, s < 11 → dtab 1 s = some (st s) := by
  have h : ∀ s : Fin 11, dtab 1 s.val = some (st s.val) := by decide +kernel
  exact fun s hs => h ⟨s, hs⟩
theorem sf_lt : ∀ s, sf s < 3 := fun s => by
  by_cases h : s < 11
  · exact (show ∀ s : Fin 11, sf s.val < 3 by decide) ⟨s, h⟩
  · unfold sf
    rw [getD_no (by simpa using h)]
    decide
theorem st_lt : ∀ s, st s < 3 := fun s => by
  by_cases h : s < 11
  · exact (show ∀ s : Fin 11, st s.val < 3 by decide) ⟨s, h⟩
  · unfold st
    rw [getD_no (by simpa using h)]
    decide
def Good (n pc oc : Nat) (P O : List Nat) (I V C : Nat → List Nat) : Prop :=
  (n < 4294967296 ∧ wshl 1 (wmul 2 n) ≤ 4096 ∧ dtab 2 n = some pc ∧ dtab 3 n = some oc ∧ pc ≤ oc ∧ oc ≤ 1000) ∧
  (lpP n dF 0 0 (List.replicate pc 0) = some P ∧ lpO n dF 0 (List.replicate oc 0) = some O ∧ P.length ≤ oc ∧ O.length ≤ oc ∧ sm P ∧ sm O) ∧
  (∀ s, s < 11 → lpI (fam (sf s) P O) (fam (st s) P O) s n dF 0 (List.replicate oc 0) = some (I s)) ∧
  (∀ f w, f < 3 → w < 4 → lpV (fam f P O) f w n dF 0 (List.replicate oc 0) (List.replicate 37 0) = some (V (f * 4 + w), C (f * 4 + w)))
theorem fam_le {f k : Nat} {P O : List Nat} (h1 : P.length ≤ k) (h2 : O.length ≤ k) : (fam f P O).length ≤ k := by
  unfold fam
  split <;> assumption
theorem fam_sm {f : Nat} {P O : List Nat} (h1 : sm P) (h2 : sm O) : sm (fam f P O) := by
  unfold fam
  split <;> assumption
section OF
variable {tb : List (List Int32)} {p n pc oc : Nat} {P O : List Nat} {I V C : Nat → List Nat} {c : Nat × Nat}
theorem of_steps (ht : tb.length = nS) (g : Good n pc oc P O I V C) : ∀ (j k m : Nat) (h : List kCel) (I0 V0 C0 : Nat → List Nat), k + j = 11 → (∀ s, k ≤ s → I0 s = List.replicate oc 0) → (∀ s, s < k → I0 s = I s) → RealmAt h p n P O I0 V0 C0 → ∃ (h' : List kCel) (I1 : Nat → List Nat), lp_X4_of tb (m + j) 0 (ad p) k 0 (h, c) = lp_X4_of tb m 0 (ad p) 11 0 (h', c) ∧ (∀ s, s < 11 → I1 s = I s) ∧ RealmAt h' p n P O I1 V0 C0 ∧ fr p (p + 41) h h' := by
  intro j
  induction j with
  | zero =>
    intro k m h I0 V0 C0 hk h1 h2 r
    have e : k = 11 := by omega
    subst e
    exact ⟨h, I0, rfl, h2, r, fr.rf _ _ _⟩
  | succ j ih =>
    intro k m h I0 V0 C0 hk h1 h2 r
    obtain ⟨⟨g1, g2, g3, g4, g5, g6⟩, ⟨g7, g8, g9, g10, g11, g12⟩, g13, g14⟩ := g
    rw [show m + (j + 1) = (m + j) + 1 from rfl, lp_X4_of_s0]
    unfold lb0_X4_of
    rw [wle_s (by decide) (by omega), decide_eq_false (by omega), cond_false]
    dsimp only
    rw [r.tag, ob_s]
    obtain ⟨h', e1, e2, e3⟩ := listImages_ok (c := c) ht g1 (step := k) (by omega) (d0_ok k (by omega)) (d1_ok k (by omega)) (sf_lt k) (st_lt k) (Nat.le_trans (fam_le g9 g10) g6) (fam_sm g11 g12) (Nat.le_trans (fam_le g9 g10) g6) (fam_sm g11 g12) (h := h) (by rw [h1 k (Nat.le_refl _), List.length_replicate]; exact fam_le g9 g10) (by rw [h1 k (Nat.le_refl _), List.length_replicate]; exact g6) r (by rw [h1 k (Nat.le_refl _)]; exact g13 k (by omega))
    rw [e1, obW_l, dl_eq, wadd_s (by omega)]
    obtain ⟨h2', I1, f1, f2, f3, f4⟩ := ih (k + 1) m h' (up I0 k (I k)) V0 C0 (by omega) (fun s hs => by rw [up_n _ _ (by omega)]; exact h1 s (by omega)) (fun s hs => by
      by_cases e : s = k
      · subst e; rw [up_s]
      · rw [up_n _ _ e]; exact h2 s (by omega)) e2
    exact ⟨h2', I1, f1, f2, f3, e3.tr f4⟩
theorem of_which (ht : tb.length = nS) (g : Good n pc oc P O I V C) {f : Nat} (hf : f < 3) : ∀ (j w m : Nat) (h : List kCel) (I0 V0 C0 : Nat → List Nat), w + j = 4 → (∀ s, f * 4 + w ≤ s → V0 s = List.replicate oc 0 ∧ C0 s = List.replicate 37 0) → (∀ s, s < f * 4 + w → V0 s = V s ∧ C0 s = C s) → RealmAt h p n P O I0 V0 C0 → ∃ (h' : List kCel) (V1 C1 : Nat → List Nat), lp_X4_of tb (m + j) 2 (ad p) f w (h, c) = lp_X4_of tb m 2 (ad p) f 4 (h', c) ∧ (∀ s, f * 4 + 4 ≤ s → V1 s = List.replicate oc 0 ∧ C1 s = List.replicate 37 0) ∧ (∀ s, s < f * 4 + 4 → V1 s = V s ∧ C1 s = C s) ∧ RealmAt h' p n P O I0 V1 C1 ∧ fr p (p + 41) h h' := by
  intro j
  induction j with
  | zero =>
    intro w m h I0 V0 C0 hk h1 h2 r
    have e : w = 4 := by omega
    subst e
    exact ⟨h, V0, C0, rfl, h1, h2, r, fr.rf _ _ _⟩
  | succ j ih =>
    intro w m h I0 V0 C0 hk h1 h2 r
    obtain ⟨⟨g1, g2, g3, g4, g5, g6⟩, ⟨g7, g8, g9, g10, g11, g12⟩, g13, g14⟩ := g
    rw [show m + (j + 1) = (m + j) + 1 from rfl, lp_X4_of_s2]
    unfold lb2_X4_of
    rw [wle_s (by decide) (by omega), decide_eq_false (by omega), cond_false]
    dsimp only
    rw [r.tag, ob_s]
    have z := h1 (f * 4 + w) (Nat.le_refl _)
    obtain ⟨h', e1, e2, e3⟩ := listValues_ok (c := c) ht g1 (f := f) (w := w) (by omega) hf (Nat.le_trans (fam_le g9 g10) g6) (fam_sm g11 g12) (h := h) (by rw [z.1, List.length_replicate]; exact fam_le g9 g10) (by rw [z.1, List.length_replicate]; exact g6) (by rw [z.2, List.length_replicate]; decide) (by rw [z.2]; exact sm_zs _) r (by rw [z.1, z.2]; exact g14 f w hf (by omega))
    rw [e1, obW_l, dl_eq, wadd_s (by omega)]
    obtain ⟨h2', V1, C1, f1, f2, f3, f4, f5⟩ := ih (w + 1) m h' I0 (up V0 (f * 4 + w) (V (f * 4 + w))) (up C0 (f * 4 + w) (C (f * 4 + w))) (by omega) (fun s hs => by rw [up_n _ _ (by omega), up_n _ _ (by omega)]; exact h1 s (by omega)) (fun s hs => by
      by_cases e : s = f * 4 + w
      · subst e; rw [up_s, up_s]; exact ⟨rfl, rfl⟩
      · rw [up_n _ _ e, up_n _ _ e]; exact h2 s (by omega)) e2
    exact ⟨h2', V1, C1, f1, f2, f3, f4, e3.tr f5⟩
theorem of_fam (ht : tb.length = nS) (g : Good n pc oc P O I V C) : ∀ (j f m : Nat) (h : List kCel) (I0 V0 C0 : Nat → List Nat), f + j = 3 → (∀ s, f * 4 ≤ s → V0 s = List.replicate oc 0 ∧ C0 s = List.replicate 37 0) → (∀ s, s < f * 4 → V0 s = V s ∧ C0 s = C s) → RealmAt h p n P O I0 V0 C0 → ∃ (h' : List kCel) (V1 C1 : Nat → List Nat), lp_X4_of tb (m + j * 6) 1 (ad p) f 0 (h, c) = lp_X4_of tb m 1 (ad p) 3 0 (h', c) ∧ (∀ s, s < 12 → V1 s = V s ∧ C1 s = C s) ∧ RealmAt h' p n P O I0 V1 C1 ∧ fr p (p + 41) h h' := by
  intro j
  induction j with
  | zero =>
    intro f m h I0 V0 C0 hk h1 h2 r
    have e : f = 3 := by omega
    subst e
    exact ⟨h, V0, C0, rfl, h2, r, fr.rf _ _ _⟩
  | succ j ih =>
    intro f m h I0 V0 C0 hk h1 h2 r
    rw [show m + (j + 1) * 6 = (m + j * 6 + 1) + 4 + 1 by omega, lp_X4_of_s1]
    unfold lb1_X4_of
    rw [wle_s (by decide) (by omega), decide_eq_false (by omega), cond_false]
    obtain ⟨h', V1, C1, e1, e2, e3, e4, e5⟩ := of_which (c := c) ht g (f := f) (by omega) 4 0 (m + j * 6 + 1) h I0 V0 C0 rfl h1 h2 r
    rw [e1, lp_X4_of_s2]
    unfold lb2_X4_of
    rw [wle_s (by decide) (by decide), decide_eq_true (by omega), cond_true, dl_eq, wadd_s (by omega)]
    obtain ⟨h2', V2, C2, f1, f2, f3, f4⟩ := ih (f + 1) m h' I0 V1 C1 (by omega) (fun s hs => e2 s (by omega)) (fun s hs => e3 s (by omega)) e4
    exact ⟨h2', V2, C2, f1, f2, f3, e5.tr f4⟩
theorem RealmAt.ext {h : List kCel} {I0 V0 C0 : Nat → List Nat} (r : RealmAt h p n P O I0 V0 C0) (h1 : ∀ s, s < 11 → I0 s = I s) (h2 : ∀ s, s < 12 → V0 s = V s ∧ C0 s = C s) : RealmAt h p n P O I V C :=
  ⟨r.1, r.2.1, r.2.2.1, r.2.2.2.1, fun s hs => by rw [← h1 s hs]; exact r.2.2.2.2.1 s hs, r.2.2.2.2.2.1, fun s hs => by rw [← (h2 s hs).1]; exact r.2.2.2.2.2.2.1 s hs, r.2.2.2.2.2.2.2.1, fun s hs => by rw [← (h2 s hs).2]; exact r.2.2.2.2.2.2.2.2 s hs⟩
theorem realm_of (ht : tb.length = nS) (g : Good n pc oc P O I V C) (H : List kCel) (c s : Nat) : ∃ h', f_X4_of tb n (H, (c, s)) = some (.inl (ad H.length), (h', (c + 41, s + 6 + (pc + oc + 11 + 11 * oc + 12 + 12 * oc + 12 + 12 * 37)))) ∧ RealmAt h' H.length n P O I V C ∧ h'.length = H.length + 41 ∧ ∀ q, q < H.length → h'[q]? = H[q]? := by
  have g0 := g
  obtain ⟨⟨g1, g2, g3, g4, g5, g6⟩, ⟨g7, g8, g9, g10, g11, g12⟩, g13, g14⟩ := g
  unfold f_X4_of
  have e0 : dnew nS c_X4 6 [Value.int 0, .null, .null, .null, .null, .null] (H, (c, s)) = some (ad H.length, (H ++ [(c_X4, [Value.int 0, .null, .null, .null, .null, .null])], (c + 1, s + 6))) := rfl
  rw [e0, ob_s]
  dsimp only
  rw [dnn_ad, ob_s]
  obtain ⟨h1, a1, a2, a3, a4⟩ := realm_init g3 g4 (by omega) (by omega) H (c + 1) (s + 6)
  rw [a1, obW_l]
  dsimp only
  rw [a2.tag, ob_s]
  obtain ⟨h2, b1, b2, b3⟩ := listPaths_ok (c := (c + 1 + 40, s + 6 + (pc + oc + 11 + 11 * oc + 12 + 12 * oc + 12 + 12 * 37))) ht g1 g2 (by rw [List.length_replicate]; omega) a2 g7
  rw [b1, obW_l]
  dsimp only
  rw [b2.tag, ob_s]
  obtain ⟨h3, c1, c2, c3⟩ := listOrders_ok (c := (c + 1 + 40, s + 6 + (pc + oc + 11 + 11 * oc + 12 + 12 * oc + 12 + 12 * 37))) ht g1 (by rw [List.length_replicate]; omega) b2 g8
  rw [c1, obW_l]
  obtain ⟨h4, I1, d1, d2, d3, d4⟩ := of_steps (c := (c + 1 + 40, s + 6 + (pc + oc + 11 + 11 * oc + 12 + 12 * oc + 12 + 12 * 37))) ht g0 11 0 (99970 + 18 + 1) h3 _ _ _ rfl (fun s _ => rfl) (fun s hs => absurd hs (by omega)) c2
  rw [show dF = 99970 + 18 + 1 + 11 from rfl, d1, lp_X4_of_s0]
  unfold lb0_X4_of
  rw [wle_s (by decide) (by decide), decide_eq_true (by omega), cond_true]
  obtain ⟨h5, V1, C1, e1, e2, e3, e4⟩ := of_fam (c := (c + 1 + 40, s + 6 + (pc + oc + 11 + 11 * oc + 12 + 12 * oc + 12 + 12 * 37))) ht g0 3 0 99970 h4 _ _ _ rfl (fun s _ => ⟨rfl, rfl⟩) (fun s hs => absurd hs (by omega)) d3
  rw [show 99970 + 18 = 99970 + 3 * 6 from rfl, e1, show 99970 = 99969 + 1 from rfl, lp_X4_of_s1]
  unfold lb1_X4_of
  rw [wle_s (by decide) (by decide), decide_eq_true (by omega), cond_true]
  have f := ((b3.tr c3).tr d4).tr e4
  refine ⟨h5, ?_, e3.ext d2 e2, f.1.trans a3, fun q hq => (f.2 q (Or.inl hq)).trans (a4 q hq)⟩
  rw [dchk_eq (by dsimp only; omega) (by dsimp only; omega)]
end OF
