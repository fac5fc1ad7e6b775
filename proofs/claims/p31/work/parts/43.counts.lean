/-! ===== counts, and the pure forms of what is asked of maps ===== -/
noncomputable def cntB (L : List Nat) (v : Nat) : Nat := @List.rec Nat (fun _ => Nat) 0 (fun x _ r => bif Nat.beq x v then Nat.succ r else r) L
theorem cntB_P : ∀ (L : List Nat) (v : Nat), cntB L v = L.countP fun x => Nat.beq x v
  | [], v => rfl
  | x :: L, v => by
    rw [List.countP_cons, ← cntB_P L v]
    show (bif Nat.beq x v then Nat.succ (cntB L v) else cntB L v) = _
    cases h : Nat.beq x v with
    | true => rfl
    | false => rfl
theorem nof_chk : five (fun n => upto 3 fun f => upto 4 fun w => upto 37 fun v => Nat.beq (nof n f w v) (cntB ((tV n (f * 4 + w)).take (cnt n f)) v) && Nat.ble (cnt n f) (tV n (f * 4 + w)).length) = true := by decide +kernel
theorem take_map (L : List Nat) {N : Nat} (h : N ≤ L.length) : L.take N = (List.range N).map fun k => L.getD k 0 := by
  apply List.ext_getElem?
  intro i
  rw [List.getElem?_take, List.getElem?_map]
  by_cases hi : i < N
  · rw [if_pos hi, List.getElem?_range hi, getD_at (show i < L.length by omega)]
    rfl
  · rw [if_neg hi, List.getElem?_eq_none (by rw [List.length_range]; omega)]
    rfl
section CT
variable {σ : List Nat} {n : Nat}
theorem nof_ok (h1 : 1 ≤ n) (h2 : n ≤ 5) {f w v : Nat} (hf : f < 3) (hw : w < 4) (hv : v < 37) : nof n f w v = (List.range (cnt n f)).countP fun k => Nat.beq (val n f w k) v := by
  have h := upto_ok (upto_ok (upto_ok (five_ok nof_chk h1 h2) hf) hw) hv
  rw [Bool.and_eq_true] at h
  rw [Nat.eq_of_beq_eq_true h.1, cntB_P, take_map _ (Nat.le_of_ble_eq_true h.2), List.countP_map]
  rfl
theorem gr_perm (w : Word σ) (h1 : 1 ≤ n) (h2 : n ≤ 5) (hi : ∀ x y, x < cnt n (frm σ) → y < cnt n (frm σ) → thr n σ x = thr n σ y → x = y) (he : cnt n (frm σ) = cnt n (tto σ)) : (gr n σ).Perm (List.range (cnt n (tto σ))) := by
  have hd : (gr n σ).Nodup := by
    unfold List.Nodup gr
    rw [List.pairwise_map]
    refine List.Pairwise.imp_of_mem ?_ (List.pairwise_lt_range (n := cnt n (frm σ)))
    intro a b ha hb hab e
    have := hi a b (List.mem_range.mp ha) (List.mem_range.mp hb) e
    omega
  have hin : ∀ a ∈ gr n σ, a < cnt n (tto σ) := by
    intro a ha
    obtain ⟨k, h3, h4⟩ := List.mem_map.mp ha
    rw [← h4]
    exact w.into h1 h2 (List.mem_range.mp h3)
  rw [List.perm_ext_iff_of_nodup hd List.nodup_range]
  intro a
  refine ⟨fun h => List.mem_range.mpr (hin a h), fun h => ?_⟩
  apply Classical.byContradiction
  intro hn
  have h3 : (a :: gr n σ).Nodup := List.nodup_cons.mpr ⟨hn, hd⟩
  have := h3.length_le_of_subset (l₂ := List.range (cnt n (tto σ))) (fun x hx => by
    rcases List.mem_cons.mp hx with e | e
    · rw [e]; exact h
    · exact List.mem_range.mpr (hin x e))
  rw [List.length_cons, gr_len, List.length_range] at this
  omega
theorem alike_ok (w : Word σ) (h1 : 1 ≤ n) (h2 : n ≤ 5) (hi : ∀ x y, x < cnt n (frm σ) → y < cnt n (frm σ) → thr n σ x = thr n σ y → x = y) (he : cnt n (frm σ) = cnt n (tto σ)) {a b : Nat} (ha : a < 4) (hb : b < 4) (hk : ∀ k, k < cnt n (frm σ) → val n (frm σ) a k = val n (tto σ) b (thr n σ k)) {v : Nat} (hv : v < 37) : nof n (frm σ) a v = nof n (tto σ) b v := by
  rw [nof_ok h1 h2 (frm_lt σ) ha hv, nof_ok h1 h2 (tto_lt σ) hb hv, ← (gr_perm w h1 h2 hi he).countP_eq]
  unfold gr
  rw [List.countP_map]
  apply List.countP_congr
  intro k hk2
  show _ ↔ Nat.beq (val n (tto σ) b (thr n σ k)) v = true
  rw [hk k (List.mem_range.mp hk2)]
/-- the first object against it -/
noncomputable def fag (n : Nat) (σ : List Nat) (a b j : Nat) : Nat → Nat := @Nat.rec (fun _ => Nat → Nat) (fun _ => 4294967295) (fun _ ih k => bif Nat.beq (val n (frm σ) a k) (val n (tto σ) b (thr n σ k)) then ih (Nat.succ k) else k) j
theorem fag_s (a b j k : Nat) : fag n σ a b (j + 1) k = bif Nat.beq (val n (frm σ) a k) (val n (tto σ) b (thr n σ k)) then fag n σ a b j (k + 1) else k := rfl
noncomputable def agn (n : Nat) (σ : List Nat) (a b : Nat) : Nat := fag n σ a b (cnt n (frm σ)) 0
theorem fag_ok {a b : Nat} : ∀ (j k : Nat), k + j < 4294967295 → (fag n σ a b j k = 4294967295 ∧ ∀ x, k ≤ x → x < k + j → val n (frm σ) a x = val n (tto σ) b (thr n σ x)) ∨ (fag n σ a b j k < k + j ∧ val n (frm σ) a (fag n σ a b j k) ≠ val n (tto σ) b (thr n σ (fag n σ a b j k))) := by
  intro j
  induction j with
  | zero => intro k _; exact Or.inl ⟨rfl, fun x h1 h2 => absurd h2 (by omega)⟩
  | succ j ih =>
    intro k hk
    rw [fag_s]
    cases hb : Nat.beq (val n (frm σ) a k) (val n (tto σ) b (thr n σ k)) with
    | true =>
      rw [cond_true]
      rcases ih (k + 1) (by omega) with ⟨h1, h2⟩ | ⟨h1, h2⟩
      · refine Or.inl ⟨h1, fun x h3 h4 => ?_⟩
        by_cases e : x = k
        · rw [e]; exact Nat.eq_of_beq_eq_true hb
        · exact h2 x (by omega) (by omega)
      · exact Or.inr ⟨by omega, h2⟩
    | false =>
      rw [cond_false]
      exact Or.inr ⟨by omega, fun e => by rw [e, Nat.beq_refl] at hb; cases hb⟩
theorem agn_ok (h1 : 1 ≤ n) (h2 : n ≤ 5) (a b : Nat) : (agn n σ a b = 4294967295 ∧ ∀ x, x < cnt n (frm σ) → val n (frm σ) a x = val n (tto σ) b (thr n σ x)) ∨ (agn n σ a b < cnt n (frm σ) ∧ val n (frm σ) a (agn n σ a b) ≠ val n (tto σ) b (thr n σ (agn n σ a b))) := by
  have hc := (cnt_720 h1 h2 (frm_lt σ)).1
  rcases fag_ok (n := n) (σ := σ) (a := a) (b := b) (cnt n (frm σ)) 0 (by omega) with ⟨h3, h4⟩ | ⟨h3, h4⟩
  · exact Or.inl ⟨h3, fun x hx => h4 x (Nat.zero_le _) (by omega)⟩
  · exact Or.inr ⟨by unfold agn; omega, h4⟩
/-- the first source -/
noncomputable def fsr (n : Nat) (σ : List Nat) (y j : Nat) : Nat → Nat := @Nat.rec (fun _ => Nat → Nat) (fun _ => 4294967295) (fun _ ih k => bif Nat.beq (thr n σ k) y then k else ih (Nat.succ k)) j
theorem fsr_s (y j k : Nat) : fsr n σ y (j + 1) k = bif Nat.beq (thr n σ k) y then k else fsr n σ y j (k + 1) := rfl
theorem fsr_ok {y x : Nat} (e : thr n σ x = y) : ∀ (j k : Nat), k ≤ x → x < k + j → fsr n σ y j k ≤ x ∧ thr n σ (fsr n σ y j k) = y := by
  intro j
  induction j with
  | zero => intro k h1 h2; omega
  | succ j ih =>
    intro k h1 h2
    rw [fsr_s]
    cases hb : Nat.beq (thr n σ k) y with
    | true => exact ⟨h1, Nat.eq_of_beq_eq_true hb⟩
    | false =>
      have hne : x ≠ k := fun e2 => by rw [← e2, e, Nat.beq_refl] at hb; cases hb
      exact ih (k + 1) (by omega) (by omega)
def odd (v : Nat) : Bool := Nat.beq (Nat.land v 1) 0
/-- whether an object is paired off -/
noncomputable def pof (n : Nat) (σ : List Nat) (a k : Nat) : Bool := bif Nat.beq (thr n σ k) k then true else (bif Nat.beq (thr n σ (thr n σ k)) k then (bif odd (val n (frm σ) a k) then !odd (val n (frm σ) a (thr n σ k)) else odd (val n (frm σ) a (thr n σ k))) else false)
theorem pof_back {a k : Nat} (h : pof n σ a k = true) : thr n σ (thr n σ k) = k := by
  unfold pof at h
  cases h1 : Nat.beq (thr n σ k) k with
  | true => rw [Nat.eq_of_beq_eq_true h1, Nat.eq_of_beq_eq_true h1]
  | false =>
    rw [h1, cond_false] at h
    cases h2 : Nat.beq (thr n σ (thr n σ k)) k with
    | true => exact Nat.eq_of_beq_eq_true h2
    | false => rw [h2, cond_false] at h; cases h
noncomputable def canl (n : Nat) (σ : List Nat) (a j : Nat) : Nat → Nat := @Nat.rec (fun _ => Nat → Nat) (fun _ => 1) (fun _ ih k => bif pof n σ a k then ih (Nat.succ k) else 0) j
theorem canl_s (a j k : Nat) : canl n σ a (j + 1) k = bif pof n σ a k then canl n σ a j (k + 1) else 0 := rfl
noncomputable def can (n : Nat) (σ : List Nat) (a : Nat) : Nat := bif Nat.beq (frm σ) (tto σ) then canl n σ a (cnt n (frm σ)) 0 else 0
theorem canl_ok {a : Nat} : ∀ (j k : Nat), canl n σ a j k = 0 ∨ (canl n σ a j k = 1 ∧ ∀ x, k ≤ x → x < k + j → thr n σ (thr n σ x) = x) := by
  intro j
  induction j with
  | zero => intro k; exact Or.inr ⟨rfl, fun x h1 h2 => absurd h2 (by omega)⟩
  | succ j ih =>
    intro k
    rw [canl_s]
    cases hp : pof n σ a k with
    | false => exact Or.inl rfl
    | true =>
      rw [cond_true]
      rcases ih (k + 1) with h | ⟨h1, h2⟩
      · exact Or.inl h
      · refine Or.inr ⟨h1, fun x h3 h4 => ?_⟩
        by_cases e : x = k
        · rw [e]; exact pof_back hp
        · exact h2 x (by omega) (by omega)
theorem can_ok (n : Nat) (σ : List Nat) (a : Nat) : can n σ a = 0 ∨ (can n σ a = 1 ∧ frm σ = tto σ ∧ ∀ x, x < cnt n (frm σ) → thr n σ (thr n σ x) = x) := by
  unfold can
  cases hb : Nat.beq (frm σ) (tto σ) with
  | false => exact Or.inl rfl
  | true =>
    rw [cond_true]
    rcases canl_ok (n := n) (σ := σ) (a := a) (cnt n (frm σ)) 0 with h | ⟨h1, h2⟩
    · exact Or.inl h
    · exact Or.inr ⟨h1, Nat.eq_of_beq_eq_true hb, fun x hx => h2 x (Nat.zero_le _) (by omega)⟩
/-- how many are in order -/
noncomputable def srt (n t j : Nat) : Nat → Nat → Nat := @Nat.rec (fun _ => Nat → Nat → Nat) (fun _ f => f) (fun _ ih k f => bif Nat.beq (thr n (List.replicate t 10) k) 0 then ih (Nat.succ k) (Nat.succ f) else ih (Nat.succ k) f) j
theorem srt_s (t j k f : Nat) : srt n t (j + 1) k f = bif Nat.beq (thr n (List.replicate t 10) k) 0 then srt n t j (k + 1) (f + 1) else srt n t j (k + 1) f := rfl
noncomputable def stN (n t : Nat) : Nat := srt n t (cnt n 2) 0 0
theorem srt_le (t : Nat) : ∀ (j k f : Nat), srt n t j k f ≤ f + j := by
  intro j
  induction j with
  | zero => intro k f; exact Nat.le_refl f
  | succ j ih =>
    intro k f
    rw [srt_s]
    cases Nat.beq (thr n (List.replicate t 10) k) 0 with
    | true => have := ih (k + 1) (f + 1); rw [cond_true]; omega
    | false => have := ih (k + 1) f; rw [cond_false]; omega
theorem stN_chk : five (fun n => (Nat.beq (stN n 6) (cnt n 2) && Nat.beq (stN n 0) 1) && Nat.beq (stN n 1) (cnt n 0)) = true := by decide +kernel
theorem stN_ok (h1 : 1 ≤ n) (h2 : n ≤ 5) : stN n 6 = cnt n 2 ∧ stN n 0 = 1 ∧ stN n 1 = cnt n 0 := by
  have h := five_ok stN_chk h1 h2
  rw [Bool.and_eq_true, Bool.and_eq_true] at h
  exact ⟨Nat.eq_of_beq_eq_true h.1.1, Nat.eq_of_beq_eq_true h.1.2, Nat.eq_of_beq_eq_true h.2⟩
noncomputable def okO (o : Option Nat) (k : Nat) : Bool := @Option.rec Nat (fun _ => Bool) false (fun x => Nat.beq x k) o
theorem rk_chk : five (fun n => upto 3 fun f => upto (cnt n f) fun k => okO (rkf (cds n f) ((cds n f).getD k 0)) k) = true := by decide +kernel
theorem rk_ok (h1 : 1 ≤ n) (h2 : n ≤ 5) {f k : Nat} (hf : f < 3) (hk : k < cnt n f) : rkf (cds n f) ((cds n f).getD k 0) = some k := by
  have h := upto_ok (upto_ok (five_ok rk_chk h1 h2) hf) hk
  cases e : rkf (cds n f) ((cds n f).getD k 0) with
  | none => rw [e] at h; cases h
  | some x =>
    rw [e] at h
    rw [Nat.eq_of_beq_eq_true h]
end CT
