/-! ===== the house, as a whole ===== -/
abbrev Wk : Type := Nat × Nat × Nat × Nat × Nat × Nat
abbrev Wk.hf (z : Wk) : Nat := z.1
abbrev Wk.hk (z : Wk) : Nat := z.2.1
abbrev Wk.f (z : Wk) : Nat := z.2.2.1
abbrev Wk.k (z : Wk) : Nat := z.2.2.2.1
abbrev Wk.t (z : Wk) : Nat := z.2.2.2.2.1
abbrev Wk.b (z : Wk) : Nat := z.2.2.2.2.2
abbrev Wk.mk (hf : Nat) (hk : Nat) (f : Nat) (k : Nat) (t : Nat) (b : Nat) : Wk := (hf, hk, f, k, t, b)
abbrev Kl : Type := Nat × Nat × Nat × Nat × Nat
abbrev Kl.m (z : Kl) : Nat := z.1
abbrev Kl.w (z : Kl) : Nat := z.2.1
abbrev Kl.o (z : Kl) : Nat := z.2.2.1
abbrev Kl.t (z : Kl) : Nat := z.2.2.2.1
abbrev Kl.r (z : Kl) : Nat := z.2.2.2.2
abbrev Kl.mk (m : Nat) (w : Nat) (o : Nat) (t : Nat) (r : Nat) : Kl := (m, w, o, t, r)
abbrev Wd : Type := Nat × (List (List Nat × Nat)) × (List Wk) × (List Kl) × Nat × Nat × (List Nat) × (List Nat) × Nat × Nat
abbrev Wd.n (z : Wd) : Nat := z.1
abbrev Wd.cs (z : Wd) : List (List Nat × Nat) := z.2.1
abbrev Wd.ws (z : Wd) : List Wk := z.2.2.1
abbrev Wd.ks (z : Wd) : List Kl := z.2.2.2.1
abbrev Wd.tr (z : Wd) : Nat := z.2.2.2.2.1
abbrev Wd.tl (z : Wd) : Nat := z.2.2.2.2.2.1
abbrev Wd.rf (z : Wd) : List Nat := z.2.2.2.2.2.2.1
abbrev Wd.td (z : Wd) : List Nat := z.2.2.2.2.2.2.2.1
abbrev Wd.rc (z : Wd) : Nat := z.2.2.2.2.2.2.2.2.1
abbrev Wd.rl (z : Wd) : Nat := z.2.2.2.2.2.2.2.2.2
abbrev Wd.mk (n : Nat) (cs : List (List Nat × Nat)) (ws : List Wk) (ks : List Kl) (tr : Nat) (tl : Nat) (rf : List Nat) (td : List Nat) (rc : Nat) (rl : Nat) : Wd := (n, cs, ws, ks, tr, tl, rf, td, rc, rl)
def rvs (as : List Nat) : List Value := as.map rv
theorem rvs_len (as : List Nat) : (rvs as).length = as.length := by simp [rvs]
theorem vR_rv (a : Nat) : vR (rv a) = some a := by
  cases a with
  | zero => rfl
  | succ a => rfl
theorem daldA_rvs {h : List kCel} {i j a : Nat} {as : List Nat} {t : Nat} (hq : h[i]? = some (t, rvs as)) (h1 : Nat.ble 104 t = true) (hj : j < 2147483648) (ha : as[j]? = some a) : daldA nS h (ad i) j = some a := by
  unfold daldA
  rw [dcell_ad, hq, ob_s, h1, cond_true]
  show ob (didx (rvs as) j) vR = _
  rw [didx_s _ hj, show (rvs as)[j]? = some (rv a) by simp [rvs, ha], ob_s, vR_rv]
theorem dastA_rvs {hs : kHS} {i j x ci t : Nat} {as : List Nat} {vs : List Value} (hq : hs.1[i]? = some (t, rvs as)) (hx : hs.1[x]? = some (ci, vs)) (hj : j < as.length) (hl : as.length < 2147483648) : dastA nS t ci hs (ad i) j (ad x) = some (hs.1.set i (t, rvs (as.set j (ad x))), hs.2) := by
  unfold dastA
  rw [dcell_ad, hq, ob_s, dcell_ad, hx, ob_s]
  dsimp only
  rw [Nat.beq_refl, Nat.beq_refl, Bool.true_and, cond_true, didx_s _ (by omega), show (rvs as)[j]? = some (rv as[j]) by simp [rvs, hj], ob_s, ad_pred, Nat.add_sub_cancel_left, show Nat.mod j 4294967296 = j from Nat.mod_eq_of_lt (by omega)]
  unfold rvs
  rw [List.map_set]
/-- the house's own cell -/
def houC (p a b k tr tl : Nat) : kCel := (c_X9, [.ref (nS + 1), .ref (nS + 2), .ref (nS + 5), .ref (nS + 6), .ref (nS + 7), .ref (nS + p), .int (nI a), .int (nI b), .int (nI k), .int (nI tr), .int (nI tl)])
def wkC (w : Wk) : kCel := (c_X8, [.int (nI w.hf), .int (nI w.hk), .int (nI w.f), .int (nI w.k), .int (nI w.t), .int (nI w.b)])
def klC (k : Kl) : kCel := (c_X1, [.int (nI k.m), .int (nI k.w), .int (nI k.o), .int (nI k.t), .int (nI k.r)])
def RlOk (h : List kCel) (own : Nat → Nat) (k a : Nat) : Prop := a = 0 ∨ ∃ p, a = ad p ∧ Rl h p k ∧ p + 41 ≤ h.length ∧ ∀ x, p ≤ x → x < p + 41 → own x = 1
def ChOk (h : List kCel) (own : Nat → Nat) (j i : Nat) (c : List Nat × Nat) : Prop := Word c.1 ∧ own i = 10 + j ∧ own (i + 1) = 10 + j ∧ ∃ sv d u r q, ChartAt h i c.1 c.2 sv d u r q ∧ (sv = 0 ∨ (1 ≤ sv ∧ sv ≤ 5 ∧ SV sv c.1 = some (d, u, r, q)))
def WkOk (h : List kCel) (own : Nat → Nat) (n j i : Nat) (w : Wk) : Prop := own i = 20 + j ∧ h[i]? = some (wkC w) ∧ w.hf < 3 ∧ w.hk < cnt n w.hf ∧ w.f < 3 ∧ w.k < cnt n w.f ∧ w.b ≤ w.t
def KlOk (h : List kCel) (own : Nat → Nat) (m j i : Nat) (k : Kl) : Prop := own i = 30 + j ∧ h[i]? = some (klC k) ∧ k.m < m ∧ k.w < 4 ∧ k.o < 4 ∧ k.t < 64 ∧ k.r < 64
def wk0 : Wk := (0, 0, 0, 0, 0, 0)
def kl0 : Kl := (0, 0, 0, 0, 0)
/-- ghosts: whose a cell is, and where the objects lie -/
abbrev Gh : Type := (Nat → Nat) × Nat × (List Nat) × (List Nat) × (List Nat) × (List Nat) × (Nat → Nat) × (Nat → Nat) × (Nat → Nat)
abbrev Gh.own (z : Gh) : Nat → Nat := z.1
abbrev Gh.p (z : Gh) : Nat := z.2.1
abbrev Gh.rs (z : Gh) : List Nat := z.2.2.1
abbrev Gh.ca (z : Gh) : List Nat := z.2.2.2.1
abbrev Gh.wa (z : Gh) : List Nat := z.2.2.2.2.1
abbrev Gh.ka (z : Gh) : List Nat := z.2.2.2.2.2.1
abbrev Gh.ci (z : Gh) : Nat → Nat := z.2.2.2.2.2.2.1
abbrev Gh.wi (z : Gh) : Nat → Nat := z.2.2.2.2.2.2.2.1
abbrev Gh.ki (z : Gh) : Nat → Nat := z.2.2.2.2.2.2.2.2
abbrev Gh.mk (own : Nat → Nat) (p : Nat) (rs : List Nat) (ca : List Nat) (wa : List Nat) (ka : List Nat) (ci : Nat → Nat) (wi : Nat → Nat) (ki : Nat → Nat) : Gh := (own, p, rs, ca, wa, ka, ci, wi, ki)
def WC (h : List kCel) (W : Wd) (g : Gh) : Prop :=
  (h[0]? = some (houC g.p W.cs.length W.ws.length W.ks.length W.tr W.tl)) ∧
  (h[1]? = some (108, rvs g.rs)) ∧
  (g.rs.length = 7) ∧
  (g.rs[W.n]? = some (ad g.p)) ∧
  (∀ k a, g.rs[k]? = some a → RlOk h g.own k a) ∧
  (∃ es ms, SurvAt h es ms) ∧
  (h[5]? = some (105, rvs g.ca)) ∧
  (g.ca.length = 8) ∧
  (∀ j, j < W.cs.length → g.ca[j]? = some (ad (g.ci j))) ∧
  (∀ j, j < W.cs.length → ChOk h g.own j (g.ci j) (W.cs.getD j ([], 0))) ∧
  (h[6]? = some (106, rvs g.wa)) ∧
  (g.wa.length = 4) ∧
  (∀ j, j < W.ws.length → g.wa[j]? = some (ad (g.wi j))) ∧
  (∀ j, j < W.ws.length → WkOk h g.own W.n j (g.wi j) (W.ws.getD j wk0)) ∧
  (h[7]? = some (107, rvs g.ka)) ∧
  (g.ka.length = 8) ∧
  (∀ j, j < W.ks.length → g.ka[j]? = some (ad (g.ki j))) ∧
  (∀ j, j < W.ks.length → KlOk h g.own W.cs.length j (g.ki j) (W.ks.getD j kl0)) ∧
  (W.cs.length ≤ 8 ∧ W.ws.length ≤ 4 ∧ W.ks.length ≤ 8 ∧ W.tr < 1000000 ∧ W.tl < 1000000 ∧ (∀ w ∈ W.ws, w.t ≤ W.tr)) ∧
  (g.own 0 = 100 ∧ g.own 1 = 101 ∧ (g.own 2 = 102 ∧ g.own 3 = 102 ∧ g.own 4 = 102) ∧ g.own 5 = 105 ∧ g.own 6 = 106 ∧ g.own 7 = 107 ∧ g.own 49 = 149 ∧ g.own 50 = 150) ∧
  (h[49]? = some (100, ints W.rf)) ∧
  (h[50]? = some (100, ints W.td)) ∧
  (W.rf.length = 8 ∧ W.td.length = 8 ∧ sm W.rf ∧ sm W.td)
theorem WC.mk {h : List kCel} {W : Wd} {g : Gh} (house : h[0]? = some (houC g.p W.cs.length W.ws.length W.ks.length W.tr W.tl)) (rarr : h[1]? = some (108, rvs g.rs)) (rlen : g.rs.length = 7) (rcur : g.rs[W.n]? = some (ad g.p)) (rl : ∀ k a, g.rs[k]? = some a → RlOk h g.own k a) (surv : ∃ es ms, SurvAt h es ms) (carr : h[5]? = some (105, rvs g.ca)) (clen : g.ca.length = 8) (cat : ∀ j, j < W.cs.length → g.ca[j]? = some (ad (g.ci j))) (ch : ∀ j, j < W.cs.length → ChOk h g.own j (g.ci j) (W.cs.getD j ([], 0))) (warr : h[6]? = some (106, rvs g.wa)) (wlen : g.wa.length = 4) (wat : ∀ j, j < W.ws.length → g.wa[j]? = some (ad (g.wi j))) (wk : ∀ j, j < W.ws.length → WkOk h g.own W.n j (g.wi j) (W.ws.getD j wk0)) (karr : h[7]? = some (107, rvs g.ka)) (klen : g.ka.length = 8) (kat : ∀ j, j < W.ks.length → g.ka[j]? = some (ad (g.ki j))) (kl : ∀ j, j < W.ks.length → KlOk h g.own W.cs.length j (g.ki j) (W.ks.getD j kl0)) (lens : W.cs.length ≤ 8 ∧ W.ws.length ≤ 4 ∧ W.ks.length ≤ 8 ∧ W.tr < 1000000 ∧ W.tl < 1000000 ∧ (∀ w ∈ W.ws, w.t ≤ W.tr)) (fx : g.own 0 = 100 ∧ g.own 1 = 101 ∧ (g.own 2 = 102 ∧ g.own 3 = 102 ∧ g.own 4 = 102) ∧ g.own 5 = 105 ∧ g.own 6 = 106 ∧ g.own 7 = 107 ∧ g.own 49 = 149 ∧ g.own 50 = 150) (lrf : h[49]? = some (100, ints W.rf)) (ltd : h[50]? = some (100, ints W.td)) (lln : W.rf.length = 8 ∧ W.td.length = 8 ∧ sm W.rf ∧ sm W.td) : WC h W g := ⟨house, rarr, rlen, rcur, rl, surv, carr, clen, cat, ch, warr, wlen, wat, wk, karr, klen, kat, kl, lens, fx, lrf, ltd, lln⟩
theorem WC.house {h : List kCel} {W : Wd} {g : Gh} (z : WC h W g) : h[0]? = some (houC g.p W.cs.length W.ws.length W.ks.length W.tr W.tl) := z.1
theorem WC.rarr {h : List kCel} {W : Wd} {g : Gh} (z : WC h W g) : h[1]? = some (108, rvs g.rs) := z.2.1
theorem WC.rlen {h : List kCel} {W : Wd} {g : Gh} (z : WC h W g) : g.rs.length = 7 := z.2.2.1
theorem WC.rcur {h : List kCel} {W : Wd} {g : Gh} (z : WC h W g) : g.rs[W.n]? = some (ad g.p) := z.2.2.2.1
theorem WC.rl {h : List kCel} {W : Wd} {g : Gh} (z : WC h W g) : ∀ k a, g.rs[k]? = some a → RlOk h g.own k a := z.2.2.2.2.1
theorem WC.surv {h : List kCel} {W : Wd} {g : Gh} (z : WC h W g) : ∃ es ms, SurvAt h es ms := z.2.2.2.2.2.1
theorem WC.carr {h : List kCel} {W : Wd} {g : Gh} (z : WC h W g) : h[5]? = some (105, rvs g.ca) := z.2.2.2.2.2.2.1
theorem WC.clen {h : List kCel} {W : Wd} {g : Gh} (z : WC h W g) : g.ca.length = 8 := z.2.2.2.2.2.2.2.1
theorem WC.cat {h : List kCel} {W : Wd} {g : Gh} (z : WC h W g) : ∀ j, j < W.cs.length → g.ca[j]? = some (ad (g.ci j)) := z.2.2.2.2.2.2.2.2.1
theorem WC.ch {h : List kCel} {W : Wd} {g : Gh} (z : WC h W g) : ∀ j, j < W.cs.length → ChOk h g.own j (g.ci j) (W.cs.getD j ([], 0)) := z.2.2.2.2.2.2.2.2.2.1
theorem WC.warr {h : List kCel} {W : Wd} {g : Gh} (z : WC h W g) : h[6]? = some (106, rvs g.wa) := z.2.2.2.2.2.2.2.2.2.2.1
theorem WC.wlen {h : List kCel} {W : Wd} {g : Gh} (z : WC h W g) : g.wa.length = 4 := z.2.2.2.2.2.2.2.2.2.2.2.1
theorem WC.wat {h : List kCel} {W : Wd} {g : Gh} (z : WC h W g) : ∀ j, j < W.ws.length → g.wa[j]? = some (ad (g.wi j)) := z.2.2.2.2.2.2.2.2.2.2.2.2.1
theorem WC.wk {h : List kCel} {W : Wd} {g : Gh} (z : WC h W g) : ∀ j, j < W.ws.length → WkOk h g.own W.n j (g.wi j) (W.ws.getD j wk0) := z.2.2.2.2.2.2.2.2.2.2.2.2.2.1
theorem WC.karr {h : List kCel} {W : Wd} {g : Gh} (z : WC h W g) : h[7]? = some (107, rvs g.ka) := z.2.2.2.2.2.2.2.2.2.2.2.2.2.2.1
theorem WC.klen {h : List kCel} {W : Wd} {g : Gh} (z : WC h W g) : g.ka.length = 8 := z.2.2.2.2.2.2.2.2.2.2.2.2.2.2.2.1
theorem WC.kat {h : List kCel} {W : Wd} {g : Gh} (z : WC h W g) : ∀ j, j < W.ks.length → g.ka[j]? = some (ad (g.ki j)) := z.2.2.2.2.2.2.2.2.2.2.2.2.2.2.2.2.1
theorem WC.kl {h : List kCel} {W : Wd} {g : Gh} (z : WC h W g) : ∀ j, j < W.ks.length → KlOk h g.own W.cs.length j (g.ki j) (W.ks.getD j kl0) := z.2.2.2.2.2.2.2.2.2.2.2.2.2.2.2.2.2.1
theorem WC.lens {h : List kCel} {W : Wd} {g : Gh} (z : WC h W g) : W.cs.length ≤ 8 ∧ W.ws.length ≤ 4 ∧ W.ks.length ≤ 8 ∧ W.tr < 1000000 ∧ W.tl < 1000000 ∧ (∀ w ∈ W.ws, w.t ≤ W.tr) := z.2.2.2.2.2.2.2.2.2.2.2.2.2.2.2.2.2.2.1
theorem WC.fx {h : List kCel} {W : Wd} {g : Gh} (z : WC h W g) : g.own 0 = 100 ∧ g.own 1 = 101 ∧ (g.own 2 = 102 ∧ g.own 3 = 102 ∧ g.own 4 = 102) ∧ g.own 5 = 105 ∧ g.own 6 = 106 ∧ g.own 7 = 107 ∧ g.own 49 = 149 ∧ g.own 50 = 150 := z.2.2.2.2.2.2.2.2.2.2.2.2.2.2.2.2.2.2.2.1
theorem WC.lrf {h : List kCel} {W : Wd} {g : Gh} (z : WC h W g) : h[49]? = some (100, ints W.rf) := z.2.2.2.2.2.2.2.2.2.2.2.2.2.2.2.2.2.2.2.2.1
theorem WC.ltd {h : List kCel} {W : Wd} {g : Gh} (z : WC h W g) : h[50]? = some (100, ints W.td) := z.2.2.2.2.2.2.2.2.2.2.2.2.2.2.2.2.2.2.2.2.2.1
theorem WC.lln {h : List kCel} {W : Wd} {g : Gh} (z : WC h W g) : W.rf.length = 8 ∧ W.td.length = 8 ∧ sm W.rf ∧ sm W.td := z.2.2.2.2.2.2.2.2.2.2.2.2.2.2.2.2.2.2.2.2.2.2
def World (hs : kHS) (W : Wd) : Prop := ∃ g, WC hs.1 W g ∧ hs.2.1 = W.rc ∧ hs.2.2 = W.rl
/-- cells of other owners are as they were -/
def Fr (S : Nat → Prop) (own own' : Nat → Nat) (h h' : List kCel) : Prop := h.length ≤ h'.length ∧ ∀ x, x < h.length → ¬ S (own x) → h'[x]? = h[x]? ∧ own' x = own x
section FR
variable {S : Nat → Prop} {own own' : Nat → Nat} {h h' : List kCel}
theorem lt_of_at {x : Nat} {c : kCel} (e : h[x]? = some c) : x < h.length := (List.getElem?_eq_some_iff.mp e).1
theorem Fr.at (f : Fr S own own' h h') {x o : Nat} {c : kCel} (e : h[x]? = some c) (ho : own x = o) (hs : ¬ S o) : h'[x]? = some c ∧ own' x = o := by
  obtain ⟨a, b⟩ := f.2 x (lt_of_at e) (by rw [ho]; exact hs)
  exact ⟨a.trans e, b.trans ho⟩
theorem Fr.rl (f : Fr S own own' h h') (hs : ¬ S 1) {k a : Nat} (r : RlOk h own k a) : RlOk h' own' k a := by
  rcases r with e | ⟨p, e, h1, h2, h3⟩
  · exact Or.inl e
  · refine Or.inr ⟨p, e, ⟨h1.1.ag (fun x a b => (f.2 x (by omega) (by rw [h3 x a b]; exact hs)).1), h1.2⟩, Nat.le_trans h2 f.1, fun x a b => (f.2 x (by omega) (by rw [h3 x a b]; exact hs)).2.trans (h3 x a b)⟩
theorem Fr.ch (f : Fr S own own' h h') {j i : Nat} {c : List Nat × Nat} (hs : ¬ S (10 + j)) (r : ChOk h own j i c) : ChOk h' own' j i c := by
  obtain ⟨a1, a2, a3, sv, d, u, r, q, a4, a5⟩ := r
  obtain ⟨b1, b2⟩ := f.at a4.1 a2 hs
  obtain ⟨b3, b4⟩ := f.at a4.2.1 a3 hs
  exact ⟨a1, b2, b4, sv, d, u, r, q, ⟨b1, b3, a4.2.2⟩, a5⟩
theorem Fr.wk (f : Fr S own own' h h') {n j i : Nat} {w : Wk} (hs : ¬ S (20 + j)) (r : WkOk h own n j i w) : WkOk h' own' n j i w := by
  obtain ⟨b1, b2⟩ := f.at r.2.1 r.1 hs
  exact ⟨b2, b1, r.2.2⟩
theorem Fr.kl (f : Fr S own own' h h') {m j i : Nat} {k : Kl} (hs : ¬ S (30 + j)) (r : KlOk h own m j i k) : KlOk h' own' m j i k := by
  obtain ⟨b1, b2⟩ := f.at r.2.1 r.1 hs
  exact ⟨b2, b1, r.2.2⟩
theorem Fr.sv (f : Fr S own own' h h') (hs : ¬ S 102) (hx : own 2 = 102 ∧ own 3 = 102 ∧ own 4 = 102) (r : ∃ es ms, SurvAt h es ms) : ∃ es ms, SurvAt h' es ms := by
  obtain ⟨es, ms, r⟩ := r
  exact ⟨es, ms, (f.at r.1 hx.1 hs).1, (f.at r.2.1 hx.2.1 hs).1, (f.at r.2.2.1 hx.2.2 hs).1, r.2.2.2⟩
theorem Fr.fx (f : Fr S own own' h h') (hs : ∀ x, (x < 8 ∨ x = 49 ∨ x = 50) → x < h.length ∧ own' x = own x) (r : own 0 = 100 ∧ own 1 = 101 ∧ (own 2 = 102 ∧ own 3 = 102 ∧ own 4 = 102) ∧ own 5 = 105 ∧ own 6 = 106 ∧ own 7 = 107 ∧ own 49 = 149 ∧ own 50 = 150) : own' 0 = 100 ∧ own' 1 = 101 ∧ (own' 2 = 102 ∧ own' 3 = 102 ∧ own' 4 = 102) ∧ own' 5 = 105 ∧ own' 6 = 106 ∧ own' 7 = 107 ∧ own' 49 = 149 ∧ own' 50 = 150 := by
  obtain ⟨r0, r1, ⟨r2, r3, r4⟩, r5, r6, r7, r8, r9⟩ := r
  exact ⟨(hs 0 (by omega)).2.trans r0, (hs 1 (by omega)).2.trans r1, ⟨(hs 2 (by omega)).2.trans r2, (hs 3 (by omega)).2.trans r3, (hs 4 (by omega)).2.trans r4⟩, (hs 5 (by omega)).2.trans r5, (hs 6 (by omega)).2.trans r6, (hs 7 (by omega)).2.trans r7, (hs 49 (by omega)).2.trans r8, (hs 50 (by omega)).2.trans r9⟩
/-- some cells changed, none made -/
theorem Fr.of_but {X : Nat → Prop} (b : but X h h') (hx : ∀ x, X x → S (own x)) : Fr S own own h h' :=
  ⟨Nat.le_of_eq b.1.symm, fun x _ hn => ⟨b.2 x fun e => hn (hx x e), rfl⟩⟩
theorem Fr.one {i : Nat} {c : kCel} (hx : S (own i)) : Fr S own own h (h.set i c) := Fr.of_but (X := fun x => x = i) but.one (fun x e => by rw [e]; exact hx)
end FR
section RD2
variable {tb : List (List Int32)} {h : List kCel} {W : Wd} {g : Gh} {c : Nat × Nat}
theorem WC.hlen (w : WC h W g) : 51 ≤ h.length := lt_of_at w.ltd
theorem WC.tag (w : WC h W g) : dtag nS c_X9 h (ad 0) = some () := dtag_ad w.house
theorem WC.g0 (w : WC h W g) : dgR nS c_X9 0 h (ad 0) = some (ad 1) := dgR_ad w.house rfl
theorem WC.g1 (w : WC h W g) : dgR nS c_X9 1 h (ad 0) = some (ad 2) := dgR_ad w.house rfl
theorem WC.g2 (w : WC h W g) : dgR nS c_X9 2 h (ad 0) = some (ad 5) := dgR_ad w.house rfl
theorem WC.g3 (w : WC h W g) : dgR nS c_X9 3 h (ad 0) = some (ad 6) := dgR_ad w.house rfl
theorem WC.g4 (w : WC h W g) : dgR nS c_X9 4 h (ad 0) = some (ad 7) := dgR_ad w.house rfl
theorem WC.g5 (w : WC h W g) : dgR nS c_X9 5 h (ad 0) = some (ad g.p) := dgR_ad w.house rfl
theorem WC.g6 (w : WC h W g) : dgI nS c_X9 6 h (ad 0) = some W.cs.length := dgI_ad w.house rfl (by have := w.lens; omega)
theorem WC.g7 (w : WC h W g) : dgI nS c_X9 7 h (ad 0) = some W.ws.length := dgI_ad w.house rfl (by have := w.lens; omega)
theorem WC.g8 (w : WC h W g) : dgI nS c_X9 8 h (ad 0) = some W.ks.length := dgI_ad w.house rfl (by have := w.lens; omega)
theorem WC.g9 (w : WC h W g) : dgI nS c_X9 9 h (ad 0) = some W.tr := dgI_ad w.house rfl (by have := w.lens; omega)
theorem WC.g10 (w : WC h W g) : dgI nS c_X9 10 h (ad 0) = some W.tl := dgI_ad w.house rfl (by have := w.lens; omega)
theorem WC.Rl (w : WC h W g) : Rl h g.p W.n ∧ g.p + 41 ≤ h.length ∧ ∀ x, g.p ≤ x → x < g.p + 41 → g.own x = 1 := by
  rcases w.rl _ _ w.rcur with e | ⟨p, e, h1, h2⟩
  · exact absurd e (by unfold ad; omega)
  · have := ad_inj e
    rw [this]
    exact ⟨h1, h2⟩
theorem WC.n5 (w : WC h W g) : 1 ≤ W.n ∧ W.n ≤ 5 := w.Rl.1.2
theorem WC.chartAt (ht : tb.length = nS) (w : WC h W g) {j : Nat} (hj : j < W.cs.length) : f_X9_chartAt tb (ad 0) j (h, c) = some (.inl (ad (g.ci j)), (h, c)) := by
  have hl := w.lens
  unfold f_X9_chartAt
  dsimp only
  rw [wlt_s (by omega) (by decide), decide_eq_false (by omega), cond_false, w.g6, ob_s, wle_s (by omega) (by omega), decide_eq_false (by omega), cond_false, w.g2, ob_s, dalen_ad ht w.carr rfl, ob_s, rvs_len, w.clen, wle_s (by decide) (by omega), decide_eq_false (by omega), cond_false, ob_s, daldA_rvs w.carr rfl (by omega) (w.cat j hj), ob_s, ad_ne, cond_false]
  exact dchk_same
theorem WC.walkerAt (ht : tb.length = nS) (w : WC h W g) {j : Nat} (hj : j < W.ws.length) : f_X9_walkerAt tb (ad 0) j (h, c) = some (.inl (ad (g.wi j)), (h, c)) := by
  have hl := w.lens
  unfold f_X9_walkerAt
  dsimp only
  rw [wlt_s (by omega) (by decide), decide_eq_false (by omega), cond_false, w.g7, ob_s, wle_s (by omega) (by omega), decide_eq_false (by omega), cond_false, w.g3, ob_s, dalen_ad ht w.warr rfl, ob_s, rvs_len, w.wlen, wle_s (by decide) (by omega), decide_eq_false (by omega), cond_false, ob_s, daldA_rvs w.warr rfl (by omega) (w.wat j hj), ob_s, ad_ne, cond_false]
  exact dchk_same
theorem WC.claimAt (ht : tb.length = nS) (w : WC h W g) {j : Nat} (hj : j < W.ks.length) : f_X9_claimAt tb (ad 0) j (h, c) = some (.inl (ad (g.ki j)), (h, c)) := by
  have hl := w.lens
  unfold f_X9_claimAt
  dsimp only
  rw [wlt_s (by omega) (by decide), decide_eq_false (by omega), cond_false, w.g8, ob_s, wle_s (by omega) (by omega), decide_eq_false (by omega), cond_false, w.g4, ob_s, dalen_ad ht w.karr rfl, ob_s, rvs_len, w.klen, wle_s (by decide) (by omega), decide_eq_false (by omega), cond_false, ob_s, daldA_rvs w.karr rfl (by omega) (w.kat j hj), ob_s, ad_ne, cond_false]
  exact dchk_same
end RD2
