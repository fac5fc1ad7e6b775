/-! ===== small rows for what dgen.py writes ===== -/
def dF : Nat := 100000
/-- the static tables stand first -/
def kTab (tb : List (List Int32)) : Prop := ∀ k, k < kT7.length → tb[k]? = kT7[k]?
noncomputable def dl {α β : Type} (a : α) (f : α → β) : β := f a
theorem kszI {x : Int32} {vs : List Value} {k : Nat} (h : ksz vs = k) : ksz (.int x :: vs) = k + 1 := by rw [ksz_I, h, Nat.add_comm]
theorem kszR {a : Nat} {vs : List Value} {k : Nat} (h : ksz vs = k) : ksz (rv a :: vs) = k + 1 := by rw [ksz_R, h, Nat.add_comm]
theorem kszL {x : Int64} {vs : List Value} {k : Nat} (h : ksz vs = k) : ksz (.long x :: vs) = k + 2 := by rw [ksz_L, h, Nat.add_comm]
theorem kszD {x : UInt64} {vs : List Value} {k : Nat} (h : ksz vs = k) : ksz (.double x :: vs) = k + 2 := by rw [ksz_D, h, Nat.add_comm]
theorem ksz0 : ksz [] = 0 := rfl
theorem hz_mk {n k : Nat} {S : List Value} (h1 : Nat.ble n S.length = true) (h2 : ksz (S.drop n) = k) (h3 : Nat.ble k 8 = true) : (Nat.ble n S.length && Nat.ble (ksz (S.drop n)) 8) = true := by rw [h1, h2, h3]; rfl
theorem lvI {i : Nat} {x : Int32} {vs : List Value} {l : List (Nat × Value)} (h : lv_args (i + 1) vs = l) : lv_args i (.int x :: vs) = (i, .int x) :: l := by rw [lv_aI, h]
theorem lvL {i : Nat} {x : Int64} {vs : List Value} {l : List (Nat × Value)} (h : lv_args (i + 2) vs = l) : lv_args i (.long x :: vs) = (i, .long x) :: l := by rw [lv_aL, h]
theorem lvR {i a : Nat} {vs : List Value} {l : List (Nat × Value)} (h : lv_args (i + 1) vs = l) : lv_args i (rv a :: vs) = (i, rv a) :: l := by rw [lv_aR, h]
theorem dn_if {β : Type} {c : Bool} {X : Option β} {y : β} {G : Prop} (hf : (bif c then none else X) = some y) (k : c = false → X = some y → G) : G := by
  cases c with
  | true => cases hf
  | false => exact k rfl hf
theorem db_if {β : Type} {c : Bool} {X Y : Option β} {y : β} {G : Prop} (hf : (bif c then X else Y) = some y) (k1 : c = true → X = some y → G) (k2 : c = false → Y = some y → G) : G := by
  cases c with
  | true => exact k1 rfl hf
  | false => exact k2 rfl hf
noncomputable def dchk {τ : Type} (hs : kHS) (o : Option (dR τ)) : Option (dR τ) := ob o fun y => bif Nat.ble hs.2.1 y.2.2.1 && Nat.ble hs.2.2 y.2.2.2 then some y else none
theorem dchk_some {τ : Type} {hs : kHS} {o : Option (dR τ)} {y : dR τ} (h : dchk hs o = some y) : o = some y ∧ (Nat.ble hs.2.1 y.2.2.1 && Nat.ble hs.2.2 y.2.2.2) = true := by
  obtain ⟨z, h1, h2⟩ := ob_some h
  cases hc : (Nat.ble hs.2.1 z.2.2.1 && Nat.ble hs.2.2 z.2.2.2) with
  | false => rw [hc] at h2; cases h2
  | true =>
    rw [hc] at h2
    cases h2
    exact ⟨h1, hc⟩
section DG4
variable {M : kCall → Nat → List (List kOp)} {ML : Nat → Nat} {mi d0 b : Nat} {r : kRes} {os : kCall → List kOp} {L : List (Nat × Value)} {S : List Value} {hs : kHS}
theorem g_metK {args : List Value} {k mL : Nat} {e : Option Value ⊕ Nat} (hml : ML mi = mL) (hk : ksz args = k) (hz : Nat.ble k mL = true) (kk : kRn M ML mi d0 0 (lv_args 0 args, [], hs) (e, hs)) : kEv M ML mi (d0 + 1) args hs (e, hs) := g_metI hml (by rw [hk]; exact hz) kk
theorem g_metW {τ : Type} {e : τ → Option Value} {args : List Value} {k mL : Nat} {o : Option (dR τ)} {y : dR τ} (hml : ML mi = mL) (hk : ksz args = k) (hz : Nat.ble k mL = true) (hf : dchk hs o = some y) (kk : o = some y → kRn M ML mi d0 0 (lv_args 0 args, [], hs) (eW e y)) : kEv M ML mi (d0 + 1) args hs (eW e y) := by
  obtain ⟨h1, h2⟩ := dchk_some hf
  exact g_met hml (by rw [hk]; exact hz) h2 (kk h1)
theorem g_storeIl {β : Type} {K : Nat → Option β} {y : β} {i e : Nat} (hf : dl e K = some y) (k : ∀ L' x, kget L' i = some (.int (nI x)) → kKeep i L L' → K x = some y → kGo M ML mi d0 os 0 (L', S, hs) r) : kGo M ML mi d0 (fun cl => oStoreI i :: os cl) b (L, .int (nI e) :: S, hs) r := g_storeI fun L' h1 h2 => k L' e h1 h2 hf
theorem g_storeRl {β : Type} {K : Nat → Option β} {y : β} {i e : Nat} (hf : dl e K = some y) (k : ∀ L' x, kget L' i = some (rv x) → kKeep i L L' → K x = some y → kGo M ML mi d0 os 0 (L', S, hs) r) : kGo M ML mi d0 (fun cl => oStoreR i :: os cl) b (L, rv e :: S, hs) r := g_storeR fun L' h1 h2 => k L' e h1 h2 hf
theorem g_storeLl {β : Type} {K : Nat → Option β} {y : β} {i e : Nat} (hf : dl e K = some y) (k : ∀ L' x, kget L' i = some (.long (lN x)) → kKeep2 i L L' → K x = some y → kGo M ML mi d0 os 0 (L', S, hs) r) : kGo M ML mi d0 (fun cl => oStoreL i :: os cl) b (L, .long (lN e) :: S, hs) r := g_storeL fun L' h1 h2 => k L' e h1 h2 hf
theorem g_storeDl {β : Type} {K : UInt64 → Option β} {y : β} {i : Nat} {e : UInt64} (hf : dl e K = some y) (k : ∀ L' x, kget L' i = some (.double x) → kKeep2 i L L' → K x = some y → kGo M ML mi d0 os 0 (L', S, hs) r) : kGo M ML mi d0 (fun cl => oStoreD i :: os cl) b (L, .double e :: S, hs) r := g_storeD fun L' h1 h2 => k L' e h1 h2 hf
theorem g_iincl {β : Type} {K : Nat → Option β} {y : β} {i a c : Nat} {d : Int32} (hk : kget L i = some (.int (nI a))) (hd : d = nI c) (hf : dl (wadd a c) K = some y) (k : ∀ L' x, kget L' i = some (.int (nI x)) → kKeep i L L' → K x = some y → kGo M ML mi d0 os 0 (L', S, hs) r) : kGo M ML mi d0 (fun cl => oIinc i d :: os cl) b (L, S, hs) r := g_iinc hk hd fun L' h1 h2 => k L' _ h1 h2 hf
theorem kfind_no : ∀ (ks : List (Int × Nat)) (bd : Nat) (x : Int), (∀ q ∈ ks, x ≠ q.1) → kfind ks bd x = bd
  | [], _, _, _ => rfl
  | q :: ks, bd, x, h => by
    rw [kfind, decide_eq_false (h q List.mem_cons_self)]
    exact kfind_no ks bd x fun q hq => h q (List.mem_cons_of_mem _ hq)
theorem w_neI {x c : Nat} (h : weq x c = false) (hc : c < 2147483648) : (nI x).toInt ≠ (c : Int) := by
  intro h1
  have h2 : weq x c = true := by
    rw [← w_eq]
    refine decide_eq_true (Int32.toInt_inj.mp ?_)
    rw [h1, nI_int, if_pos (by omega)]
    omega
  rw [h] at h2
  cases h2
theorem g_lookD {x : Nat} {ks : List (Int × Nat)} {bd : Nat} (h : ∀ q ∈ ks, (nI x).toInt ≠ q.1) (k : kRn M ML mi d0 bd (L, S, hs) r) : kGo M ML mi d0 (fun _ => [tLook ks bd]) b (L, .int (nI x) :: S, hs) r := g_jump (b' := bd) (by unfold tLook; dsimp only; rw [kfind_no _ _ _ h]) k
end DG4
