/-! ===== what holds of each map ===== -/
def ext (σ bs : List Nat) : List Nat := bs.foldl (fun σ b => σ ++ [nx (tto σ) b]) σ
/-- a map that the law can tell -/
def Word (σ : List Nat) : Prop := ∃ s bs, s < 11 ∧ bs.length ≤ 5 ∧ (∀ b ∈ bs, b < 2) ∧ σ = ext [s] bs
theorem ext_snoc (σ bs : List Nat) (b : Nat) : ext σ (bs ++ [b]) = ext σ bs ++ [nx (tto (ext σ bs)) b] := by
  unfold ext
  rw [List.foldl_append]
  rfl
theorem ext_len : ∀ (bs σ : List Nat), (ext σ bs).length = σ.length + bs.length
  | [], σ => rfl
  | b :: bs, σ => by
    show (ext (σ ++ [nx (tto σ) b]) bs).length = _
    rw [ext_len bs, List.length_append, List.length_cons, List.length_nil, List.length_cons]
    omega
theorem Word.one {s : Nat} (h : s < 11) : Word [s] := ⟨s, [], h, Nat.zero_le _, fun b hb => absurd hb List.not_mem_nil, rfl⟩
theorem Word.snoc {σ : List Nat} (w : Word σ) (hl : σ.length < 6) {b : Nat} (hb : b < 2) : Word (σ ++ [nx (tto σ) b]) := by
  obtain ⟨s, bs, h1, h2, h3, rfl⟩ := w
  rw [ext_len, List.length_cons, List.length_nil] at hl
  refine ⟨s, bs ++ [b], h1, by rw [List.length_append, List.length_cons, List.length_nil]; omega, fun x hx => ?_, (ext_snoc _ _ _).symm⟩
  rcases List.mem_append.mp hx with h | h
  · exact h3 x h
  · rw [List.mem_singleton.mp h]; exact hb
theorem frm_snoc {σ : List Nat} (h : 1 ≤ σ.length) (s : Nat) : frm (σ ++ [s]) = frm σ := by
  unfold frm
  rw [List.getD_eq_getElem?_getD, List.getElem?_append_left (by omega), ← List.getD_eq_getElem?_getD]
theorem tto_snoc (σ : List Nat) (s : Nat) : tto (σ ++ [s]) = st s := by
  unfold tto
  rw [List.length_append, List.length_cons, List.length_nil, List.getD_eq_getElem?_getD, List.getElem?_append_right (by omega), show σ.length + (0 + 1) - 1 - σ.length = 0 by omega]
  rfl
theorem thr_snoc (n : Nat) (σ : List Nat) (s k : Nat) : thr n (σ ++ [s]) k = (tI n s).getD (thr n σ k) 0 := by
  unfold thr
  rw [List.foldl_append]
  rfl
theorem gr_snoc (n : Nat) {σ : List Nat} (h : 1 ≤ σ.length) (s : Nat) : gr n (σ ++ [s]) = stp n s (gr n σ) := by
  unfold gr stp
  rw [frm_snoc h, List.map_map]
  apply List.map_congr_left
  intro k _
  exact thr_snoc n σ s k
theorem eqL_ok : ∀ {A B : List Nat}, eqL A B = true → A = B
  | [], [], _ => rfl
  | [], y :: B, h => by cases h
  | x :: A, [], h => by cases h
  | x :: A, y :: B, h => by
    have h2 : (Nat.beq x y && eqL A B) = true := h
    rw [Bool.and_eq_true] at h2
    rw [Nat.eq_of_beq_eq_true h2.1, eqL_ok h2.2]
def kWs (n : Nat) : List (Nat × Nat × Nat × List Nat × Nat × Nat) := [[], kW1, kW2, kW3, kW4, kW5].getD n []
def kBs (n : Nat) : List Nat := [[], kB1, kB2, kB3, kB4, kB5].getD n []
theorem kWs_ok {n : Nat} (h1 : 1 ≤ n) (h2 : n ≤ 5) : (kWs n).all (okW n (kWs n)) = true ∧ begW n (kWs n) (kBs n) = true := by
  rcases (show n = 1 ∨ n = 2 ∨ n = 3 ∨ n = 4 ∨ n = 5 by omega) with rfl | rfl | rfl | rfl | rfl
  · exact ⟨kW1_ok, kB1_ok⟩
  · exact ⟨kW2_ok, kB2_ok⟩
  · exact ⟨kW3_ok, kB3_ok⟩
  · exact ⟨kW4_ok, kB4_ok⟩
  · exact ⟨kW5_ok, kB5_ok⟩
theorem getD_cases {α : Type} (K : List α) (j : Nat) (d : α) : K.getD j d ∈ K ∨ K.getD j d = d := by
  rw [List.getD_eq_getElem?_getD]
  cases h : K[j]? with
  | none => exact Or.inr rfl
  | some x => exact Or.inl (List.mem_of_getElem? h)
theorem ent_ext {n : Nat} (h1 : 1 ≤ n) (h2 : n ≤ 5) : ∀ (bs σ : List Nat), 1 ≤ σ.length → σ.length + bs.length ≤ 6 → (∀ b ∈ bs, b < 2) → (∃ e ∈ kWs n, e.1 ≤ σ.length ∧ e.2.1 = frm σ ∧ e.2.2.1 = tto σ ∧ e.2.2.2.1 = gr n σ) → ∃ e ∈ kWs n, e.2.1 = frm (ext σ bs) ∧ e.2.2.1 = tto (ext σ bs) ∧ e.2.2.2.1 = gr n (ext σ bs)
  | [], σ, _, _, _, ⟨e, a, _, c⟩ => ⟨e, a, c⟩
  | b :: bs, σ, hs, hl, hb, ⟨e, a, d, f, t, g⟩ => by
    rw [List.length_cons] at hl
    refine ent_ext h1 h2 bs (σ ++ [nx (tto σ) b]) (by rw [List.length_append]; omega) (by rw [List.length_append, List.length_cons, List.length_nil]; omega) (fun x hx => hb x (List.mem_cons_of_mem _ hx)) ?_
    have ho := List.all_eq_true.mp (kWs_ok h1 h2).1 e a
    unfold okW at ho
    rw [Bool.and_eq_true, Bool.or_eq_true, Bool.and_eq_true] at ho
    have h6 : Nat.ble 6 e.1 = false := by
      cases hb : Nat.ble 6 e.1 with
      | true => have := Nat.le_of_ble_eq_true hb; omega
      | false => rfl
    rw [h6] at ho
    have hs2 : ∃ j, suc n (kWs n) e b j = true := by
      rcases (show b = 0 ∨ b = 1 by have := hb b List.mem_cons_self; omega) with rfl | rfl
      · exact ⟨_, (ho.2.resolve_left (by decide)).1⟩
      · exact ⟨_, (ho.2.resolve_left (by decide)).2⟩
    obtain ⟨j, hj⟩ := hs2
    unfold suc at hj
    dsimp only at hj
    rcases getD_cases (kWs n) j (0, 0, 0, [], 0, 0) with hm | hm
    · generalize (kWs n).getD j (0, 0, 0, [], 0, 0) = e2 at hj hm
      rw [Bool.and_eq_true, Bool.and_eq_true, Bool.and_eq_true] at hj
      obtain ⟨j1, j2, j3, j4⟩ := hj
      refine ⟨e2, hm, ?_, ?_, ?_, ?_⟩
      · have := Nat.le_of_ble_eq_true j3
        rw [List.length_append, List.length_cons, List.length_nil]
        omega
      · rw [frm_snoc hs, ← f]; exact Nat.eq_of_beq_eq_true j1
      · rw [tto_snoc, ← t]; exact Nat.eq_of_beq_eq_true j2
      · rw [gr_snoc n hs, ← t, ← g]; exact eqL_ok j4
    · rw [hm] at hj
      rw [Bool.and_eq_true, Bool.and_eq_true, Bool.and_eq_true] at hj
      have e4 := eqL_ok hj.2.2.2
      have e5 : (stp n (nx e.2.2.1 b) e.2.2.2.1).length = cnt n (frm σ) := by
        unfold stp
        rw [List.length_map, g, gr_len]
      rw [← e4] at e5
      have := (cnt_720 h1 h2 (frm_lt σ)).2
      rw [List.length_nil] at e5
      omega
theorem Word.ent {σ : List Nat} (w : Word σ) {n : Nat} (h1 : 1 ≤ n) (h2 : n ≤ 5) : ∃ e ∈ kWs n, e.2.1 = frm σ ∧ e.2.2.1 = tto σ ∧ e.2.2.2.1 = gr n σ := by
  obtain ⟨s, bs, a1, a2, a3, rfl⟩ := w
  refine ent_ext h1 h2 bs [s] (Nat.le_refl _) (by rw [List.length_cons, List.length_nil]; omega) a3 ?_
  have hb := upto_ok (kWs_ok h1 h2).2 a1
  dsimp only at hb
  rcases getD_cases (kWs n) ((kBs n).getD s 0) (7, 0, 0, [], 0, 0) with hm | hm
  · generalize (kWs n).getD ((kBs n).getD s 0) (7, 0, 0, [], 0, 0) = e at hb hm
    rw [Bool.and_eq_true, Bool.and_eq_true, Bool.and_eq_true] at hb
    exact ⟨e, hm, Nat.le_of_ble_eq_true hb.2.2.1, Nat.eq_of_beq_eq_true hb.1, Nat.eq_of_beq_eq_true hb.2.1, eqL_ok hb.2.2.2⟩
  · rw [hm, Bool.and_eq_true, Bool.and_eq_true, Bool.and_eq_true] at hb
    cases hb.2.2.1
theorem Word.nd {σ : List Nat} (w : Word σ) {n : Nat} (h1 : 1 ≤ n) (h2 : n ≤ 5) : node n (frm σ) (tto σ) (gr n σ) = true := by
  obtain ⟨e, a, b, c, d⟩ := w.ent h1 h2
  have ho := List.all_eq_true.mp (kWs_ok h1 h2).1 e a
  unfold okW at ho
  rw [Bool.and_eq_true, b, c, d] at ho
  exact ho.1
theorem Word.len {σ : List Nat} (w : Word σ) : 1 ≤ σ.length ∧ σ.length ≤ 6 := by
  obtain ⟨s, bs, a1, a2, a3, rfl⟩ := w
  rw [ext_len, List.length_cons, List.length_nil]
  omega
theorem nx_lt (t : Nat) {b : Nat} (h : b < 2) : nx t b < 11 := by
  unfold nx
  have : [0, 2, 8].getD t 0 ≤ 8 := by
    match t with
    | 0 => decide
    | 1 => decide
    | 2 => decide
    | t + 3 => exact Nat.zero_le 8
  omega
theorem Word.lt {σ : List Nat} (w : Word σ) : ∀ s ∈ σ, s < 11 := by
  obtain ⟨s, bs, a1, a2, a3, rfl⟩ := w
  have : ∀ (bs σ : List Nat), (∀ b ∈ bs, b < 2) → (∀ s ∈ σ, s < 11) → ∀ s ∈ ext σ bs, s < 11 := by
    intro bs
    induction bs with
    | nil => intro σ _ h; exact h
    | cons b bs ih =>
      intro σ hb h
      refine ih (σ ++ [nx (tto σ) b]) (fun x hx => hb x (List.mem_cons_of_mem _ hx)) (fun x hx => ?_)
      rcases List.mem_append.mp hx with h3 | h3
      · exact h x h3
      · rw [List.mem_singleton.mp h3]; exact nx_lt _ (hb b List.mem_cons_self)
  exact this bs [s] a3 (fun x hx => by rw [List.mem_singleton.mp hx]; exact a1)
/-! a map of a size -/
section MW
variable {σ : List Nat} {n : Nat}
theorem Word.into (w : Word σ) (h1 : 1 ≤ n) (h2 : n ≤ 5) {k : Nat} (hk : k < cnt n (frm σ)) : thr n σ k < cnt n (tto σ) := by
  have h := w.nd h1 h2
  unfold node at h
  rw [Bool.and_eq_true] at h
  have := List.all_eq_true.mp h.1 (thr n σ k) (List.mem_map.mpr ⟨k, List.mem_range.mpr hk, rfl⟩)
  exact Nat.le_of_ble_eq_true this
theorem gr_720 (w : Word σ) (h1 : 1 ≤ n) (h2 : n ≤ 5) (x : Nat) : (gr n σ).getD x 0 < 720 := by
  by_cases hx : x < cnt n (frm σ)
  · rw [gr_at hx]
    have := w.into h1 h2 hx
    have := (cnt_720 h1 h2 (tto_lt σ)).1
    omega
  · rw [getD_no (by rw [gr_len]; omega)]
    decide
theorem dupB_inj : ∀ {T : List Nat}, dupB T = true → ∃ x y, x < y ∧ y < T.length ∧ T.getD x 0 = T.getD y 0
  | [], h => by cases h
  | x :: l, h => by
    have h2 : ((l.any fun y => Nat.beq x y) || dupB l) = true := h
    rw [Bool.or_eq_true] at h2
    rcases h2 with h3 | h3
    · obtain ⟨y, hy, e⟩ := List.any_eq_true.mp h3
      obtain ⟨j, hj, e2⟩ := List.getElem_of_mem hy
      refine ⟨0, j + 1, by omega, by rw [List.length_cons]; omega, ?_⟩
      rw [List.getD_cons_zero, List.getD_cons_succ, List.getD_eq_getElem?_getD, List.getElem?_eq_getElem hj, e2]
      exact Nat.eq_of_beq_eq_true e
    · obtain ⟨a, b, h4, h5, h6⟩ := dupB_inj h3
      exact ⟨a + 1, b + 1, by omega, by rw [List.length_cons]; omega, by rw [List.getD_cons_succ, List.getD_cons_succ]; exact h6⟩
theorem wlk_ok {T : List Nat} {x : Nat} : ∀ (k t : Nat), 1 ≤ t → wlk T x k (itr T t x) t = true → itr T 2520 x = x := by
  intro k
  induction k with
  | zero => intro t _ h; cases h
  | succ k ih =>
    intro t ht h
    have h2 : (bif Nat.beq (itr T t x) x then Nat.beq (Nat.mod 2520 t) 0 else wlk T x k (itr T (t + 1) x) (t + 1)) = true := h
    cases hb : Nat.beq (itr T t x) x with
    | true =>
      rw [hb, cond_true] at h2
      exact itr_dvd (Nat.eq_of_beq_eq_true hb) (Nat.dvd_of_mod_eq_zero (Nat.eq_of_beq_eq_true h2))
    | false =>
      rw [hb, cond_false] at h2
      exact ih (t + 1) (by omega) h2
/-- perfect, as the survey tells it -/
theorem inj_of_cdn (w : Word σ) (h1 : 1 ≤ n) (h2 : n ≤ 5) (h : (cdn (gr n σ) (gr n σ).length 0 (List.replicate 720 0) 0).1 = (gr n σ).length) : ∀ x y, x < cnt n (frm σ) → y < cnt n (frm σ) → thr n σ x = thr n σ y → x = y := by
  obtain ⟨_, h4⟩ := cdn_inj (gr_720 w h1 h2) _ _ _ _ List.length_replicate (h.trans (Nat.zero_add _).symm)
  rw [gr_len, Nat.zero_add] at h4
  intro x y hx hy e
  apply Classical.byContradiction
  intro hne
  rcases Nat.lt_or_gt_of_ne hne with h5 | h5
  · exact h4 x y (Nat.zero_le _) h5 hy (by rw [gr_at hx, gr_at hy, e])
  · exact h4 y x (Nat.zero_le _) h5 hx (by rw [gr_at hx, gr_at hy, e])
theorem cdn_of_inj (w : Word σ) (h1 : 1 ≤ n) (h2 : n ≤ 5) (h : ∀ x y, x < cnt n (frm σ) → y < cnt n (frm σ) → thr n σ x = thr n σ y → x = y) : (cdn (gr n σ) (gr n σ).length 0 (List.replicate 720 0) 0).1 = (gr n σ).length := by
  have e := cdn_full (gr_720 w h1 h2) (gr n σ).length 0 (List.replicate 720 0) 0 List.length_replicate (fun x _ _ => met_zero _) (fun x y _ hxy hy he => by
    rw [Nat.zero_add, gr_len] at hy
    rw [gr_at (by omega), gr_at hy] at he
    have := h x y (by omega) hy he
    omega)
  rw [e, Nat.zero_add]
theorem cdn_to (w : Word σ) (h1 : 1 ≤ n) (h2 : n ≤ 5) : (cdn (gr n σ) (gr n σ).length 0 (List.replicate 720 0) 0).1 ≤ cnt n (tto σ) := by
  have := cdn_bound (B := cnt n (tto σ)) (gr_720 w h1 h2) (gr n σ).length 0 (List.replicate 720 0) [] List.length_replicate (fun x _ hx => by
    rw [Nat.zero_add, gr_len] at hx
    rw [gr_at hx]
    exact w.into h1 h2 hx) List.nodup_nil (fun x hx => absurd hx List.not_mem_nil)
  exact this
theorem move_back (w : Word σ) (h1 : 1 ≤ n) (h2 : n ≤ 5) (hm : frm σ = tto σ) (h : ∀ x y, x < cnt n (frm σ) → y < cnt n (frm σ) → thr n σ x = thr n σ y → x = y) : ∀ x, x < cnt n (frm σ) → itr (gr n σ) 2520 x = x := by
  intro x hx
  have hn := w.nd h1 h2
  unfold node at hn
  rw [Bool.and_eq_true, hm, show Nat.beq (tto σ) (tto σ) = true from Nat.beq_refl _, cond_true, Bool.or_eq_true] at hn
  have h3 : cyc (gr n σ) (gr n σ).length = true := by
    rcases hn.2 with hd | hc
    · obtain ⟨a, b, h3, h4, h5⟩ := dupB_inj hd
      rw [gr_len] at h4
      rw [gr_at (by omega), gr_at h4] at h5
      have := h a b (by omega) h4 h5
      omega
    · exact hc
  exact wlk_ok 40 1 (Nat.le_refl _) (upto_ok h3 (by rw [gr_len]; exact hx))
theorem SV_ex (w : Word σ) (h1 : 1 ≤ n) (h2 : n ≤ 5) : ∃ v, SV n σ = some v := by
  unfold SV
  cases hm : Nat.beq (frm σ) (tto σ) with
  | false => rw [cond_false]; exact ⟨_, rfl⟩
  | true =>
    rw [cond_true]
    cases hd : Nat.beq (cdn (gr n σ) (gr n σ).length 0 (List.replicate 720 0) 0).1 (gr n σ).length with
    | false => rw [cond_false]; exact ⟨_, rfl⟩
    | true =>
      rw [cond_true]
      have hi := inj_of_cdn w h1 h2 (Nat.eq_of_beq_eq_true hd)
      have e := Nat.eq_of_beq_eq_true hm
      have hb := move_back w h1 h2 e hi
      obtain ⟨v, hv, _⟩ := frn_ok (G := gr n σ) (N := (gr n σ).length) rfl (by rw [gr_len]; have := (cnt_720 h1 h2 (frm_lt σ)).1; omega) (fun x hx => by
        rw [gr_len] at hx ⊢
        rw [gr_at hx]
        have := w.into h1 h2 hx
        rw [← e] at this
        exact this) (fun x y hx hy he => by
        rw [gr_len] at hx hy
        rw [gr_at hx, gr_at hy] at he
        exact hi x y hx hy he) (fun x hx => by rw [gr_len] at hx; exact hb x hx) (by decide) (by decide)
      rw [hv, ob_s]
      exact ⟨_, rfl⟩
end MW
