/-! ===== what a survey finds, put to use ===== -/
section FD
variable {σ : List Nat} {n : Nat} {v : Nat × Nat × Nat × Nat}
/-- perfect -/
def Pfc (n : Nat) (σ : List Nat) : Prop := (∀ x y, x < cnt n (frm σ) → y < cnt n (frm σ) → thr n σ x = thr n σ y → x = y) ∧ cnt n (frm σ) = cnt n (tto σ)
theorem itr_gr (w : Word σ) (h1 : 1 ≤ n) (h2 : n ≤ 5) (hm : frm σ = tto σ) {x : Nat} (hx : x < cnt n (frm σ)) : (gr n σ).getD x 0 = thr n σ x ∧ thr n σ x < cnt n (frm σ) := by
  have := w.into h1 h2 hx
  rw [← hm] at this
  exact ⟨gr_at hx, this⟩
theorem SV_d (hv : SV n σ = some v) : v.1 = (cdn (gr n σ) (gr n σ).length 0 (List.replicate 720 0) 0).1 := by
  unfold SV at hv
  cases hm : Nat.beq (frm σ) (tto σ) with
  | false => rw [hm, cond_false] at hv; cases hv; rfl
  | true =>
    rw [hm, cond_true] at hv
    cases hd : Nat.beq (cdn (gr n σ) (gr n σ).length 0 (List.replicate 720 0) 0).1 (gr n σ).length with
    | false => rw [hd, cond_false] at hv; cases hv; rfl
    | true =>
      rw [hd, cond_true] at hv
      cases hf : frn (gr n σ) (gr n σ).length 0 (List.replicate 720 0) 0 1 with
      | none => rw [hf] at hv; exact no_none hv
      | some z => rw [hf, ob_s] at hv; cases hv; rfl
theorem SV_le (w : Word σ) (h1 : 1 ≤ n) (h2 : n ≤ 5) (hv : SV n σ = some v) : v.1 ≤ cnt n (frm σ) ∧ v.1 ≤ cnt n (tto σ) := by
  rw [SV_d hv]
  refine ⟨?_, cdn_to w h1 h2⟩
  have := cdn_le (gr n σ) (gr n σ).length 0 (List.replicate 720 0) 0
  rw [Nat.zero_add] at this
  rw [← gr_len n σ]
  exact this
theorem SV_pf (w : Word σ) (h1 : 1 ≤ n) (h2 : n ≤ 5) (hv : SV n σ = some v) : (v.1 = cnt n (frm σ) ∧ v.1 = cnt n (tto σ)) ↔ Pfc n σ := by
  have e := SV_d hv
  constructor
  · rintro ⟨a, b⟩
    refine ⟨inj_of_cdn w h1 h2 (by rw [← e, gr_len]; exact a), a.symm.trans b⟩
  · rintro ⟨a, b⟩
    have := cdn_of_inj w h1 h2 a
    rw [← e, gr_len] at this
    exact ⟨this, this.trans b⟩
/-- no perfect move: no rounds, no period -/
theorem SV_no (w : Word σ) (h1 : 1 ≤ n) (h2 : n ≤ 5) (hv : SV n σ = some v) (h : ¬ (frm σ = tto σ ∧ Pfc n σ)) : v.2.2.1 = 4294967295 ∧ v.2.2.2 = 18446744073709551615 := by
  have e := SV_d hv
  unfold SV at hv
  cases hm : Nat.beq (frm σ) (tto σ) with
  | false => rw [hm, cond_false] at hv; cases hv; exact ⟨rfl, rfl⟩
  | true =>
    rw [hm, cond_true] at hv
    cases hd : Nat.beq (cdn (gr n σ) (gr n σ).length 0 (List.replicate 720 0) 0).1 (gr n σ).length with
    | false => rw [hd, cond_false] at hv; cases hv; exact ⟨rfl, rfl⟩
    | true =>
      have e2 := Nat.eq_of_beq_eq_true hm
      exact absurd ⟨e2, inj_of_cdn w h1 h2 (Nat.eq_of_beq_eq_true hd), by rw [e2]⟩ h
/-- a perfect move -/
theorem SV_mv (w : Word σ) (h1 : 1 ≤ n) (h2 : n ≤ 5) (hv : SV n σ = some v) (hm : frm σ = tto σ) (hp : Pfc n σ) : (∀ x, x < cnt n (frm σ) → itr (gr n σ) v.2.2.2 x = x) ∧ 1 ≤ v.2.2.2 ∧ v.2.2.2 ≤ 2520 ∧ (∀ E, (∀ x, x < cnt n (frm σ) → itr (gr n σ) E x = x) → v.2.2.2 ∣ E) ∧ v.2.1 ≤ v.2.2.1 ∧ v.2.2.1 ≤ 720 ∧ v.2.1 = unm (gr n σ) (cnt n (frm σ)) 0 0 := by
  have hb := move_back w h1 h2 hm hp.1
  have hc := (cnt_720 h1 h2 (frm_lt σ)).1
  obtain ⟨z, hz, g1, g2, g3, g4⟩ := frn_ok (G := gr n σ) (N := cnt n (frm σ)) (gr_len _ _) (by omega) (fun x hx => by
    obtain ⟨a, b⟩ := itr_gr w h1 h2 hm hx
    rw [a]; exact b) (fun x y hx hy he => by
    rw [gr_at hx, gr_at hy] at he
    exact hp.1 x y hx hy he) hb (by decide) (by decide)
  have hd := cdn_of_inj w h1 h2 hp.1
  have hlt := (frn_lt (gr n σ) _ _ _ _ _ z (by decide) hz).1
  unfold SV at hv
  rw [hm, Nat.beq_refl, cond_true, hd, Nat.beq_refl, cond_true, gr_len, hz, ob_s] at hv
  cases hv
  exact ⟨g1, g2, Nat.le_of_dvd (by decide) (g3 2520 hb), g3, g4, by dsimp only; omega, rfl⟩
theorem unm_all (G : List Nat) : ∀ (j k f : Nat), unm G j k f = f + j ↔ ∀ x, k ≤ x → x < k + j → G.getD x 0 = x := by
  intro j
  induction j with
  | zero => intro k f; exact ⟨fun _ x h1 h2 => absurd h2 (by omega), fun _ => rfl⟩
  | succ j ih =>
    intro k f
    rw [unm_s]
    cases hb : Nat.beq (G.getD k 0) k with
    | true =>
      rw [cond_true, show f + (j + 1) = f + 1 + j by omega, ih]
      constructor
      · intro h x h3 h4
        by_cases e : x = k
        · rw [e]; exact Nat.eq_of_beq_eq_true hb
        · exact h x (by omega) (by omega)
      · intro h x h3 h4
        exact h x (by omega) (by omega)
    | false =>
      rw [cond_false]
      constructor
      · intro h
        have := unm_le G j (k + 1) f
        omega
      · intro h
        have e := h k (Nat.le_refl _) (by omega)
        rw [e, Nat.beq_refl] at hb
        cases hb
/-- period 1 where nothing is moved -/
theorem SV_one (w : Word σ) (h1 : 1 ≤ n) (h2 : n ≤ 5) (hv : SV n σ = some v) (hm : frm σ = tto σ) (hp : Pfc n σ) : v.2.2.2 = 1 ↔ v.2.1 = cnt n (frm σ) := by
  obtain ⟨g1, g2, g3, g4, g5, g6, g7⟩ := SV_mv w h1 h2 hv hm hp
  have hu := unm_all (gr n σ) (cnt n (frm σ)) 0 0
  rw [Nat.zero_add] at hu
  rw [g7, hu]
  constructor
  · intro e x _ hx
    have := g1 x hx
    rw [e] at this
    exact this
  · intro h
    have := Nat.le_of_dvd (by decide) (g4 1 (fun x hx => h x (Nat.zero_le _) hx))
    omega
/-- what is its own image's image has a period of 2 at most -/
theorem SV_two (w : Word σ) (h1 : 1 ≤ n) (h2 : n ≤ 5) (hv : SV n σ = some v) (hm : frm σ = tto σ) (hp : Pfc n σ) (hb : ∀ x, x < cnt n (frm σ) → thr n σ (thr n σ x) = x) : v.2.2.2 ≤ 2 := by
  obtain ⟨g1, g2, g3, g4, g5, g6, g7⟩ := SV_mv w h1 h2 hv hm hp
  refine Nat.le_of_dvd (by decide) (g4 2 (fun x hx => ?_))
  obtain ⟨a, b⟩ := itr_gr w h1 h2 hm hx
  show (gr n σ).getD ((gr n σ).getD x 0) 0 = x
  rw [a, gr_at b]
  exact hb x hx
/-- what is its own image's image is perfect -/
theorem pf_of_back (w : Word σ) (h1 : 1 ≤ n) (h2 : n ≤ 5) (hm : frm σ = tto σ) (hb : ∀ x, x < cnt n (frm σ) → thr n σ (thr n σ x) = x) : Pfc n σ :=
  ⟨fun x y hx hy e => by rw [← hb x hx, ← hb y hy, e], by rw [hm]⟩
/-- the walk home -/
theorem home (w : Word σ) (h1 : 1 ≤ n) (h2 : n ≤ 5) (hm : frm σ = tto σ) (hp : Pfc n σ) {x : Nat} (hx : x < cnt n (frm σ)) : ∃ t, t ≤ cnt n (frm σ) ∧ Ret (gr n σ) t x := ret_ex (G := gr n σ) (fun y hy => by
    obtain ⟨a, b⟩ := itr_gr w h1 h2 hm hy
    rw [a]; exact b) (fun y z hy hz he => by
    rw [gr_at hy, gr_at hz] at he
    exact hp.1 y z hy hz he) hx
end FD
