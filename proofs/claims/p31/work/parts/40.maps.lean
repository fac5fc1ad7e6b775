/-! ===== maps of a finite row onto itself ===== -/
def itr (G : List Nat) (t : Nat) (x : Nat) : Nat := @Nat.rec (fun _ => Nat) x (fun _ y => G.getD y 0) t
theorem itr_z (G : List Nat) (x : Nat) : itr G 0 x = x := rfl
theorem itr_s (G : List Nat) (t x : Nat) : itr G (t + 1) x = G.getD (itr G t x) 0 := rfl
theorem itr_add (G : List Nat) (a b x : Nat) : itr G (a + b) x = itr G a (itr G b x) := by
  induction a with
  | zero => rw [Nat.zero_add]; rfl
  | succ a ih => rw [show a + 1 + b = (a + b) + 1 by omega, itr_s, itr_s, ih]
def Into (G : List Nat) (N : Nat) : Prop := ∀ x, x < N → G.getD x 0 < N
def Inj (G : List Nat) (N : Nat) : Prop := ∀ x y, x < N → y < N → G.getD x 0 = G.getD y 0 → x = y
section MP
variable {G : List Nat} {N : Nat}
theorem itr_lt (hi : Into G N) {x : Nat} (hx : x < N) : ∀ t, itr G t x < N
  | 0 => hx
  | t + 1 => hi _ (itr_lt hi hx t)
theorem itr_cancel (hi : Into G N) (hj : Inj G N) {x y : Nat} (hx : x < N) (hy : y < N) : ∀ t, itr G t x = itr G t y → x = y
  | 0, h => h
  | t + 1, h => itr_cancel hi hj hx hy t (hj _ _ (itr_lt hi hx t) (itr_lt hi hy t) h)
theorem pigeon (N : Nat) (f : Nat → Nat) (h : ∀ i, i ≤ N → f i < N) : ∃ i j, i < j ∧ j ≤ N ∧ f i = f j := by
  apply Classical.byContradiction
  intro hn
  have hd : ((List.range (N + 1)).map f).Nodup := by
    unfold List.Nodup
    rw [List.pairwise_map]
    refine List.Pairwise.imp_of_mem ?_ (List.pairwise_lt_range (n := N + 1))
    intro a b ha hb hab e
    exact hn ⟨a, b, hab, by have := List.mem_range.mp hb; omega, e⟩
  have hs : ((List.range (N + 1)).map f) ⊆ List.range N := by
    intro y hy
    obtain ⟨i, h1, h2⟩ := List.mem_map.mp hy
    rw [← h2]
    exact List.mem_range.mpr (h i (by have := List.mem_range.mp h1; omega))
  have := hd.length_le_of_subset hs
  rw [List.length_map, List.length_range, List.length_range] at this
  omega
theorem least {P : Nat → Prop} : ∀ n, P n → ∃ m, m ≤ n ∧ P m ∧ ∀ j, j < m → ¬ P j := by
  intro n
  induction n using Nat.strongRecOn with
  | ind n ih =>
    intro hp
    by_cases h : ∃ j, j < n ∧ P j
    · obtain ⟨j, h1, h2⟩ := h
      obtain ⟨m, h3, h4, h5⟩ := ih j h1 h2
      exact ⟨m, by omega, h4, h5⟩
    · exact ⟨n, Nat.le_refl _, hp, fun j hj hpj => h ⟨j, hj, hpj⟩⟩
/-- the first return -/
def Ret (G : List Nat) (t x : Nat) : Prop := 1 ≤ t ∧ itr G t x = x ∧ ∀ j, 1 ≤ j → j < t → itr G j x ≠ x
theorem ret_ex (hi : Into G N) (hj : Inj G N) {x : Nat} (hx : x < N) : ∃ t, t ≤ N ∧ Ret G t x := by
  obtain ⟨i, j, h1, h2, h3⟩ := pigeon N (fun i => itr G i x) (fun i _ => itr_lt hi hx i)
  have h4 : itr G (j - i) x = x := by
    have e : itr G j x = itr G i (itr G (j - i) x) := by rw [← itr_add, show i + (j - i) = j by omega]
    exact (itr_cancel hi hj hx (itr_lt hi hx _) i (h3.trans e)).symm
  obtain ⟨m, m1, m2, m3⟩ := least (P := fun t => 1 ≤ t ∧ itr G t x = x) (j - i) ⟨by omega, h4⟩
  exact ⟨m, by omega, m2.1, m2.2, fun l h5 h6 h7 => m3 l h6 ⟨h5, h7⟩⟩
theorem itr_mul {t x : Nat} (h : itr G t x = x) : ∀ c, itr G (t * c) x = x
  | 0 => rfl
  | c + 1 => by rw [Nat.mul_succ, itr_add, h, itr_mul h c]
theorem ret_dvd {t x a : Nat} (r : Ret G t x) (ha : itr G a x = x) : t ∣ a := by
  have h1 : itr G (a % t) x = x := by
    have e := ha
    rw [← Nat.mod_add_div a t, itr_add, itr_mul r.2.1] at e
    exact e
  apply Nat.dvd_of_mod_eq_zero
  apply Classical.byContradiction
  intro h0
  exact r.2.2 (a % t) (by omega) (Nat.mod_lt _ (by have := r.1; omega)) h1
theorem itr_dvd {t x a : Nat} (h : itr G t x = x) (hd : t ∣ a) : itr G a x = x := by
  obtain ⟨c, rfl⟩ := hd
  exact itr_mul h c
theorem itr_com (a b x : Nat) : itr G a (itr G b x) = itr G b (itr G a x) := by
  rw [← itr_add, ← itr_add, Nat.add_comm]
end MP
/-! the least common multiple -/
theorem cml_spec {q l : Nat} (hl : 1 ≤ l) : ∀ (j f : Nat), f + j = l + 1 → 1 ≤ f → f ≤ l → (∀ g, 1 ≤ g → g < f → ¬ l ∣ q * g) → ∃ f0, 1 ≤ f0 ∧ f0 ≤ l ∧ l ∣ q * f0 ∧ (∀ g, 1 ≤ g → g < f0 → ¬ l ∣ q * g) ∧ cml q l j f = q * f0 := by
  intro j
  induction j with
  | zero => intro f h1 h2 h3 _; omega
  | succ j ih =>
    intro f h1 h2 h3 h4
    rw [cml_s]
    cases hb : Nat.beq (q * f % l) 0 with
    | true => exact ⟨f, h2, h3, Nat.dvd_of_mod_eq_zero (Nat.eq_of_beq_eq_true hb), h4, rfl⟩
    | false =>
      have hn : ¬ l ∣ q * f := fun hd => by rw [Nat.mod_eq_zero_of_dvd hd] at hb; cases hb
      by_cases e : f = l
      · exact absurd ⟨q, by rw [e, Nat.mul_comm]⟩ hn
      · exact ih (f + 1) (by omega) (by omega) (by omega) (fun g g1 g2 => by
          by_cases e2 : g = f
          · rw [e2]; exact hn
          · exact h4 g g1 (by omega))
theorem cml_all {q l : Nat} (hl : 1 ≤ l) (hq : 1 ≤ q) : q ∣ cml q l l 1 ∧ l ∣ cml q l l 1 ∧ 1 ≤ cml q l l 1 ∧ ∀ E, q ∣ E → l ∣ E → cml q l l 1 ∣ E := by
  obtain ⟨f, h1, h2, h3, h4, h5⟩ := cml_spec (q := q) hl l 1 (by omega) (Nat.le_refl _) hl (fun g g1 g2 => absurd g2 (by omega))
  rw [h5]
  refine ⟨⟨f, rfl⟩, h3, Nat.mul_pos hq h1, fun E he hle => ?_⟩
  obtain ⟨e, rfl⟩ := he
  apply Nat.mul_dvd_mul_left
  apply Nat.dvd_of_mod_eq_zero
  apply Classical.byContradiction
  intro h0
  apply h4 (e % f) (by omega) (Nat.mod_lt _ (by omega))
  have e1 : q * e = q * (e % f) + q * f * (e / f) := by
    rw [Nat.mul_assoc, ← Nat.mul_add, Nat.mod_add_div]
  rw [e1] at hle
  exact (Nat.dvd_add_iff_left (Nat.dvd_trans h3 (Nat.dvd_mul_right _ _))).mpr hle
/-! what was met -/
def met (ms : List Nat) (x : Nat) : Prop := ms.getD x 0 ≠ 0
theorem met_zero (x : Nat) : ¬ met (List.replicate 720 0) x := by
  intro h
  apply h
  rw [List.getD_eq_getElem?_getD, List.getElem?_replicate]
  split <;> rfl
theorem met_set {ms : List Nat} (hl : ms.length = 720) {v : Nat} (hv : v < 720) (x : Nat) : met (ms.set v 1) x ↔ met ms x ∨ x = v := by
  unfold met
  rw [List.getD_eq_getElem?_getD, List.getElem?_set]
  by_cases e : v = x
  · subst e
    rw [if_pos rfl, if_pos (by omega)]
    exact ⟨fun _ => Or.inr rfl, fun _ => by decide⟩
  · rw [if_neg e, List.getD_eq_getElem?_getD]
    exact ⟨fun h => Or.inl h, fun h => h.elim id fun h => absurd h.symm e⟩
theorem mtn_t {ms : List Nat} {v : Nat} (hv : v < 720) (h : ¬ met ms v) : mtn ms v = true := by
  unfold mtn
  rw [show Nat.blt v 720 = true from Nat.ble_eq.mpr hv, Bool.true_and]
  unfold met at h
  rw [Classical.not_not.mp h]
  rfl
theorem mtn_f {ms : List Nat} {v : Nat} (h : met ms v) : mtn ms v = false := by
  unfold mtn
  cases hb : Nat.beq (ms.getD v 0) 0 with
  | true => exact absurd (Nat.eq_of_beq_eq_true hb) h
  | false => exact Bool.and_false _
theorem mtn_of {ms : List Nat} {v : Nat} (h : mtn ms v = true) : v < 720 ∧ ¬ met ms v := by
  unfold mtn at h
  rw [Bool.and_eq_true] at h
  exact ⟨Nat.le_of_ble_eq_true h.1, fun hm => hm (Nat.eq_of_beq_eq_true h.2)⟩
/-! how many are distinct -/
theorem cdn_inj {G : List Nat} (h720 : ∀ x, G.getD x 0 < 720) : ∀ (j k : Nat) (ms : List Nat) (f : Nat), ms.length = 720 → (cdn G j k ms f).1 = f + j → (∀ x, k ≤ x → x < k + j → ¬ met ms (G.getD x 0)) ∧ (∀ x y, k ≤ x → x < y → y < k + j → G.getD x 0 ≠ G.getD y 0) := by
  intro j
  induction j with
  | zero => intro k ms f _ _; exact ⟨fun x h1 h2 => absurd h2 (by omega), fun x y h1 h2 h3 => absurd h3 (by omega)⟩
  | succ j ih =>
    intro k ms f hl hc
    rw [cdn_s] at hc
    cases hm : mtn ms (G.getD k 0) with
    | false =>
      rw [hm, cond_false] at hc
      have := cdn_le G j (k + 1) ms f
      omega
    | true =>
      rw [hm, cond_true] at hc
      obtain ⟨h1, h2⟩ := ih (k + 1) (ms.set (G.getD k 0) 1) (f + 1) (by rw [List.length_set]; exact hl) (by omega)
      have hk := (mtn_of hm).2
      refine ⟨fun x a b => ?_, fun x y a b c => ?_⟩
      · by_cases e : x = k
        · rw [e]; exact hk
        · exact fun hx => h1 x (by omega) (by omega) ((met_set hl (h720 k) _).mpr (Or.inl hx))
      · by_cases e : x = k
        · rw [e]
          exact fun he => h1 y (by omega) (by omega) ((met_set hl (h720 k) _).mpr (Or.inr he.symm))
        · exact h2 x y (by omega) b (by omega)
theorem cdn_full {G : List Nat} (h720 : ∀ x, G.getD x 0 < 720) : ∀ (j k : Nat) (ms : List Nat) (f : Nat), ms.length = 720 → (∀ x, k ≤ x → x < k + j → ¬ met ms (G.getD x 0)) → (∀ x y, k ≤ x → x < y → y < k + j → G.getD x 0 ≠ G.getD y 0) → (cdn G j k ms f).1 = f + j := by
  intro j
  induction j with
  | zero => intro k ms f _ _ _; rfl
  | succ j ih =>
    intro k ms f hl h1 h2
    rw [cdn_s, mtn_t (h720 k) (h1 k (Nat.le_refl _) (by omega)), cond_true, ih (k + 1) _ (f + 1) (by rw [List.length_set]; exact hl) (fun x a b hx => by
      rcases (met_set hl (h720 k) _).mp hx with h | h
      · exact h1 x (by omega) (by omega) h
      · exact h2 k x (Nat.le_refl _) (by omega) (by omega) h.symm) (fun x y a b c => h2 x y (by omega) b (by omega))]
    omega
theorem cdn_bound {G : List Nat} {B : Nat} (h720 : ∀ x, G.getD x 0 < 720) : ∀ (j k : Nat) (ms : List Nat) (L : List Nat), ms.length = 720 → (∀ x, k ≤ x → x < k + j → G.getD x 0 < B) → L.Nodup → (∀ x ∈ L, met ms x ∧ x < B) → (cdn G j k ms L.length).1 ≤ B := by
  intro j
  induction j with
  | zero =>
    intro k ms L _ _ hd hL
    have := hd.length_le_of_subset (l₂ := List.range B) (fun x hx => List.mem_range.mpr (hL x hx).2)
    rw [List.length_range] at this
    exact this
  | succ j ih =>
    intro k ms L hl hB hd hL
    rw [cdn_s]
    cases hm : mtn ms (G.getD k 0) with
    | false => exact ih (k + 1) ms L hl (fun x a b => hB x (by omega) (by omega)) hd hL
    | true =>
      rw [cond_true]
      exact ih (k + 1) _ (G.getD k 0 :: L) (by rw [List.length_set]; exact hl) (fun x a b => hB x (by omega) (by omega)) (List.nodup_cons.mpr ⟨fun hx => (mtn_of hm).2 (hL _ hx).1, hd⟩) (fun x hx => by
        rcases List.mem_cons.mp hx with e | e
        · rw [e]; exact ⟨(met_set hl (h720 k) _).mpr (Or.inr rfl), hB k (Nat.le_refl _) (by omega)⟩
        · exact ⟨(met_set hl (h720 k) _).mpr (Or.inl (hL x e).1), (hL x e).2⟩)
/-! a round -/
theorem rln_spec {G : List Nat} {N : Nat} (hN : G.length = N) (h720 : N ≤ 720) (hi : Into G N) (hj : Inj G N) {ms : List Nat} {k t : Nat} (hk : k < N) (hc : ∀ x, x < N → (met ms x ↔ met ms (G.getD x 0))) (hu : ¬ met ms k) (r : Ret G t k) (ht : t ≤ N) : ∀ (j l : Nat) (ms1 : List Nat), l + j = N → l ≤ t → ms1.length = 720 → (∀ x, met ms1 x ↔ met ms x ∨ ∃ i, i < l ∧ x = itr G i k) → ∃ ms2, rln G j l (itr G l k) ms1 = some (t, ms2) ∧ ms2.length = 720 ∧ (∀ x, met ms2 x ↔ met ms x ∨ ∃ i, i < t ∧ x = itr G i k) := by
  have hun : ∀ i, ¬ met ms (itr G i k) := by
    intro i
    induction i with
    | zero => exact hu
    | succ i ih => rw [itr_s]; exact fun h => ih ((hc _ (itr_lt hi hk i)).mpr h)
  intro j
  induction j with
  | zero =>
    intro l ms1 h1 h2 h3 h4
    have e : l = t := by omega
    subst e
    exact ⟨ms1, rfl, h3, h4⟩
  | succ j ih =>
    intro l ms1 h1 h2 h3 h4
    have hp : itr G l k < N := itr_lt hi hk l
    rw [rln_s, show Nat.blt (itr G l k) G.length = true from Nat.ble_eq.mpr (by omega), cond_true]
    by_cases e : l = t
    · subst e
      rw [mtn_f ((h4 _).mpr (Or.inr ⟨0, by have := r.1; omega, by rw [r.2.1]; rfl⟩)), cond_false]
      exact ⟨ms1, rfl, h3, h4⟩
    · have hnm : ¬ met ms1 (itr G l k) := by
        intro hm
        rcases (h4 _).mp hm with h | ⟨i, h5, h6⟩
        · exact hun l h
        · have e2 : itr G i (itr G (l - i) k) = itr G i k := by rw [← itr_add, show i + (l - i) = l by omega, h6]
          exact r.2.2 (l - i) (by omega) (by omega) (itr_cancel hi hj (itr_lt hi hk _) hk i e2)
      rw [mtn_t (by omega) hnm, cond_true]
      exact ih (l + 1) _ (by omega) (by omega) (by rw [List.length_set]; exact h3) (fun x => by
        rw [met_set h3 (by omega), h4]
        constructor
        · rintro ((h | ⟨i, h5, h6⟩) | h)
          · exact Or.inl h
          · exact Or.inr ⟨i, by omega, h6⟩
          · exact Or.inr ⟨l, by omega, h⟩
        · rintro (h | ⟨i, h5, h6⟩)
          · exact Or.inl (Or.inl h)
          · by_cases e3 : i = l
            · rw [e3] at h6; exact Or.inr h6
            · exact Or.inl (Or.inr ⟨i, by omega, h6⟩))
/-! all rounds -/
theorem frn_spec {G : List Nat} {N E0 : Nat} (hN : G.length = N) (h720 : N ≤ 720) (hi : Into G N) (hj : Inj G N) (hE : ∀ x, x < N → itr G E0 x = x) (hE1 : 1 ≤ E0) (hE2 : E0 * 720 < 9223372036854775808) : ∀ (j k : Nat) (ms : List Nat) (r q u : Nat), k + j = N → ms.length = 720 → (∀ x, x < k → met ms x) → (∀ x, met ms x → x < N) → (∀ x, x < N → (met ms x ↔ met ms (G.getD x 0))) → (∀ x, met ms x → itr G q x = x) → (∀ x, met ms x → k ≤ x → G.getD x 0 ≠ x) → 1 ≤ q → (∀ E, (∀ x, x < N → itr G E x = x) → q ∣ E) → u ≤ r → ∃ v, frn G j k ms r q = some v ∧ (∀ x, x < N → itr G v.2 x = x) ∧ 1 ≤ v.2 ∧ (∀ E, (∀ x, x < N → itr G E x = x) → v.2 ∣ E) ∧ unm G j k u ≤ v.1 := by
  intro j
  induction j with
  | zero => intro k ms r q u h1 h2 h3 h4 h5 h6 h7 h8 h9 h10; exact ⟨(r, q), rfl, fun x hx => h6 x (h3 x (by omega)), h8, h9, h10⟩
  | succ j ih =>
    intro k ms r q u h1 h2 h3 h4 h5 h6 h7 h8 h9 h10
    have hk : k < N := by omega
    rw [frn_s, unm_s]
    by_cases hm : met ms k
    · have e : rln G G.length 0 k ms = some (0, ms) := by
        rw [show G.length = (G.length - 1) + 1 by omega, rln_s, show Nat.blt k G.length = true from Nat.ble_eq.mpr (by omega), cond_true, mtn_f hm, cond_false]
      have hf : Nat.beq (G.getD k 0) k = false := by
        cases hb : Nat.beq (G.getD k 0) k with
        | true => exact absurd (Nat.eq_of_beq_eq_true hb) (h7 k hm (Nat.le_refl _))
        | false => rfl
      rw [e, ob_s, hf, cond_false]
      exact ih (k + 1) ms r q u (by omega) h2 (fun x hx => by
        by_cases e : x = k
        · rw [e]; exact hm
        · exact h3 x (by omega)) h4 h5 h6 (fun x a b => h7 x a (by omega)) h8 h9 h10
    · obtain ⟨t, ht, rt⟩ := ret_ex hi hj hk
      obtain ⟨ms2, e, g2, g3⟩ := rln_spec hN h720 hi hj hk h5 hm rt ht N 0 ms (by omega) (by omega) h2 (fun x => ⟨Or.inl, fun h => h.elim id fun ⟨i, a, _⟩ => absurd a (by omega)⟩)
      have ht1 := rt.1
      have hq0 := Nat.le_of_dvd hE1 (h9 E0 hE)
      have hb : q * t < 9223372036854775808 := Nat.lt_of_le_of_lt (Nat.mul_le_mul hq0 (show t ≤ 720 by omega)) hE2
      obtain ⟨c1, c2, c3, c4⟩ := cml_all (q := q) ht1 h8
      have hz : Nat.beq t 0 = false := by
        cases hb : Nat.beq t 0 with
        | true => have := Nat.eq_of_beq_eq_true hb; omega
        | false => rfl
      have e' : rln G G.length 0 k ms = some (t, ms2) := by rw [hN]; exact e
      rw [e', ob_s]
      dsimp only
      rw [hz, cond_false, show Nat.blt (q * t) 9223372036854775808 = true from Nat.ble_eq.mpr hb, cond_true]
      have main := fun (u' : Nat) (hu' : u' ≤ r + 1) => ih (k + 1) ms2 (r + 1) (cml q t t 1) u' (by omega) g2 (fun x hx => by
        by_cases e : x = k
        · rw [e]; exact (g3 k).mpr (Or.inr ⟨0, by omega, rfl⟩)
        · exact (g3 x).mpr (Or.inl (h3 x (by omega)))) (fun x hx => by
        rcases (g3 x).mp hx with h | ⟨i, _, h⟩
        · exact h4 x h
        · rw [h]; exact itr_lt hi hk i) (fun x hx => by
        rw [g3, g3]
        constructor
        · rintro (h | ⟨i, a, b⟩)
          · exact Or.inl ((h5 x hx).mp h)
          · by_cases e : i + 1 = t
            · exact Or.inr ⟨0, by omega, by rw [b, ← itr_s, e, rt.2.1]; rfl⟩
            · exact Or.inr ⟨i + 1, by omega, by rw [b]; rfl⟩
        · rintro (h | ⟨i, a, b⟩)
          · exact Or.inl ((h5 x hx).mpr h)
          · cases i with
            | zero =>
              refine Or.inr ⟨t - 1, by omega, hj _ _ hx (itr_lt hi hk _) ?_⟩
              rw [b, ← itr_s, show t - 1 + 1 = t by omega, rt.2.1]
              rfl
            | succ i => exact Or.inr ⟨i, by omega, hj _ _ hx (itr_lt hi hk _) b⟩) (fun x hx => by
        rcases (g3 x).mp hx with h | ⟨i, _, h⟩
        · exact itr_dvd (h6 x h) c1
        · rw [h, itr_com, itr_dvd rt.2.1 c2]) (fun x hx hxk hf => by
        rcases (g3 x).mp hx with h | ⟨i, a, h⟩
        · exact h7 x h (by omega) hf
        · have e : itr G i (G.getD k 0) = itr G i k := by
            rw [show G.getD k 0 = itr G 1 k from rfl, itr_com, ← h]
            exact hf
          have e2 := itr_cancel hi hj (hi k hk) hk i e
          have e3 : t ∣ 1 := ret_dvd rt e2
          have e4 := Nat.le_of_dvd (by omega) e3
          have e5 : i = 0 := by omega
          rw [e5] at h
          rw [show itr G 0 k = k from rfl] at h
          omega) c3 (fun E hE' => c4 E (h9 E hE') (ret_dvd rt (hE' k hk))) hu'
      cases hf : Nat.beq (G.getD k 0) k with
      | true => exact main (u + 1) (by omega)
      | false => exact main u (by omega)
theorem frn_ok {G : List Nat} {N E0 : Nat} (hN : G.length = N) (h720 : N ≤ 720) (hi : Into G N) (hj : Inj G N) (hE : ∀ x, x < N → itr G E0 x = x) (hE1 : 1 ≤ E0) (hE2 : E0 * 720 < 9223372036854775808) : ∃ v, frn G N 0 (List.replicate 720 0) 0 1 = some v ∧ (∀ x, x < N → itr G v.2 x = x) ∧ 1 ≤ v.2 ∧ (∀ E, (∀ x, x < N → itr G E x = x) → v.2 ∣ E) ∧ unm G N 0 0 ≤ v.1 :=
  frn_spec hN h720 hi hj hE hE1 hE2 N 0 _ 0 1 0 (by omega) List.length_replicate (fun x hx => absurd hx (by omega)) (fun x hx => absurd hx (met_zero x)) (fun x _ => ⟨fun h => absurd h (met_zero _), fun h => absurd h (met_zero _)⟩) (fun x hx => absurd hx (met_zero x)) (fun x hx => absurd hx (met_zero x)) (Nat.le_refl _) (fun E _ => Nat.one_dvd E) (Nat.le_refl _)
