/-! ===== a word that is no code ===== -/
theorem weq_ne {c b : Nat} (hc : c < 4294967296) (hb : b < 4294967296) (h : c ≠ b) : weq c b = false := by
  unfold weq
  rw [← Bool.not_eq_true, Nat.beq_eq]
  show ¬ (c % 4294967296 = b % 4294967296)
  omega
def sO : kHS := (hI.set 61 (101, [.long (lN (xi 4294967295))]), 63, 2301)
set_option maxRecDepth 100000 in
theorem start_T : f_X12_start 70 0 1 sTh = some (.inl 0, sTh) := by decide +kernel
set_option maxRecDepth 100000 in
theorem start_O : f_X12_start 70 0 1 sO = some (.inl 0, sO) := by decide +kernel
set_option maxRecDepth 100000 in
theorem start_I : f_X12_start 70 0 1 sI = some (.inl 0, sI) := by decide +kernel
set_option maxRecDepth 100000 in
theorem k0_m_0 {b : Nat} (hb : ∀ c ∈ [42, 44, 50, 52, 56], weq c b = false) (n : Nat) : lp_X4_rankOf tb0 sI.1 (n + 1) b 30 4294967295 0 = some 4294967295 := by
  rw [show n + 1 = (n + 0) + 1 from rfl, lp_X4_rankOf_s0]
  unfold lb0_X4_rankOf
  rw [show wle 0 0 = true by decide +kernel, cond_true, show wlt 4294967295 0 = true by decide +kernel, cond_true]
set_option maxRecDepth 100000 in
theorem k0_0_0 {b : Nat} (hb : ∀ c ∈ [42, 44, 50, 52, 56], weq c b = false) (n : Nat) : lp_X4_rankOf tb0 sI.1 (n + 1) b 30 0 0 = some 4294967295 := by
  rw [show n + 1 = (n + 0) + 1 from rfl, lp_X4_rankOf_s0]
  unfold lb0_X4_rankOf
  rw [show wle 0 0 = true by decide +kernel, cond_true, show wlt 0 0 = false by decide +kernel, cond_false, ob_mk (show f_X5_at tb0 sI.1 30 0 = some 42 from rfl), hb 42 (by decide)]
  rfl
set_option maxRecDepth 100000 in
theorem k0_m_1 {b : Nat} (hb : ∀ c ∈ [42, 44, 50, 52, 56], weq c b = false) (n : Nat) : lp_X4_rankOf tb0 sI.1 (n + 2) b 30 4294967295 1 = some 4294967295 := by
  rw [show n + 2 = (n + 1) + 1 from rfl, lp_X4_rankOf_s0]
  unfold lb0_X4_rankOf
  rw [show wle 1 0 = false by decide +kernel, cond_false, ob_mk (show dalenG tb0 sI.1 30 = some 5 from rfl), show wadd 4294967295 1 = 0 by decide +kernel, show wle 5 0 = false by decide +kernel, cond_false, ob_mk (show f_X5_at tb0 sI.1 30 0 = some 42 from rfl), dl_2, dl_2, dl_2, show wdiv 1 2 = 0 by decide +kernel]
  cases wlt b 42 with
  | true => rw [cond_true]; exact k0_m_0 hb n
  | false => rw [cond_false]; exact k0_0_0 hb n
set_option maxRecDepth 100000 in
theorem k0_1_0 {b : Nat} (hb : ∀ c ∈ [42, 44, 50, 52, 56], weq c b = false) (n : Nat) : lp_X4_rankOf tb0 sI.1 (n + 1) b 30 1 0 = some 4294967295 := by
  rw [show n + 1 = (n + 0) + 1 from rfl, lp_X4_rankOf_s0]
  unfold lb0_X4_rankOf
  rw [show wle 0 0 = true by decide +kernel, cond_true, show wlt 1 0 = false by decide +kernel, cond_false, ob_mk (show f_X5_at tb0 sI.1 30 1 = some 44 from rfl), hb 44 (by decide)]
  rfl
set_option maxRecDepth 100000 in
theorem k0_2_0 {b : Nat} (hb : ∀ c ∈ [42, 44, 50, 52, 56], weq c b = false) (n : Nat) : lp_X4_rankOf tb0 sI.1 (n + 1) b 30 2 0 = some 4294967295 := by
  rw [show n + 1 = (n + 0) + 1 from rfl, lp_X4_rankOf_s0]
  unfold lb0_X4_rankOf
  rw [show wle 0 0 = true by decide +kernel, cond_true, show wlt 2 0 = false by decide +kernel, cond_false, ob_mk (show f_X5_at tb0 sI.1 30 2 = some 50 from rfl), hb 50 (by decide)]
  rfl
set_option maxRecDepth 100000 in
theorem k0_1_1 {b : Nat} (hb : ∀ c ∈ [42, 44, 50, 52, 56], weq c b = false) (n : Nat) : lp_X4_rankOf tb0 sI.1 (n + 2) b 30 1 1 = some 4294967295 := by
  rw [show n + 2 = (n + 1) + 1 from rfl, lp_X4_rankOf_s0]
  unfold lb0_X4_rankOf
  rw [show wle 1 0 = false by decide +kernel, cond_false, ob_mk (show dalenG tb0 sI.1 30 = some 5 from rfl), show wadd 1 1 = 2 by decide +kernel, show wle 5 2 = false by decide +kernel, cond_false, ob_mk (show f_X5_at tb0 sI.1 30 2 = some 50 from rfl), dl_2, dl_2, dl_2, show wdiv 1 2 = 0 by decide +kernel]
  cases wlt b 50 with
  | true => rw [cond_true]; exact k0_1_0 hb n
  | false => rw [cond_false]; exact k0_2_0 hb n
set_option maxRecDepth 100000 in
theorem k0_m_2 {b : Nat} (hb : ∀ c ∈ [42, 44, 50, 52, 56], weq c b = false) (n : Nat) : lp_X4_rankOf tb0 sI.1 (n + 3) b 30 4294967295 2 = some 4294967295 := by
  rw [show n + 3 = (n + 2) + 1 from rfl, lp_X4_rankOf_s0]
  unfold lb0_X4_rankOf
  rw [show wle 2 0 = false by decide +kernel, cond_false, ob_mk (show dalenG tb0 sI.1 30 = some 5 from rfl), show wadd 4294967295 2 = 1 by decide +kernel, show wle 5 1 = false by decide +kernel, cond_false, ob_mk (show f_X5_at tb0 sI.1 30 1 = some 44 from rfl), dl_2, dl_2, dl_2, show wdiv 2 2 = 1 by decide +kernel]
  cases wlt b 44 with
  | true => rw [cond_true]; exact k0_m_1 hb n
  | false => rw [cond_false]; exact k0_1_1 hb n
set_option maxRecDepth 100000 in
theorem k0_3_0 {b : Nat} (hb : ∀ c ∈ [42, 44, 50, 52, 56], weq c b = false) (n : Nat) : lp_X4_rankOf tb0 sI.1 (n + 1) b 30 3 0 = some 4294967295 := by
  rw [show n + 1 = (n + 0) + 1 from rfl, lp_X4_rankOf_s0]
  unfold lb0_X4_rankOf
  rw [show wle 0 0 = true by decide +kernel, cond_true, show wlt 3 0 = false by decide +kernel, cond_false, ob_mk (show f_X5_at tb0 sI.1 30 3 = some 52 from rfl), hb 52 (by decide)]
  rfl
set_option maxRecDepth 100000 in
theorem k0_4_0 {b : Nat} (hb : ∀ c ∈ [42, 44, 50, 52, 56], weq c b = false) (n : Nat) : lp_X4_rankOf tb0 sI.1 (n + 1) b 30 4 0 = some 4294967295 := by
  rw [show n + 1 = (n + 0) + 1 from rfl, lp_X4_rankOf_s0]
  unfold lb0_X4_rankOf
  rw [show wle 0 0 = true by decide +kernel, cond_true, show wlt 4 0 = false by decide +kernel, cond_false, ob_mk (show f_X5_at tb0 sI.1 30 4 = some 56 from rfl), hb 56 (by decide)]
  rfl
set_option maxRecDepth 100000 in
theorem k0_3_1 {b : Nat} (hb : ∀ c ∈ [42, 44, 50, 52, 56], weq c b = false) (n : Nat) : lp_X4_rankOf tb0 sI.1 (n + 2) b 30 3 1 = some 4294967295 := by
  rw [show n + 2 = (n + 1) + 1 from rfl, lp_X4_rankOf_s0]
  unfold lb0_X4_rankOf
  rw [show wle 1 0 = false by decide +kernel, cond_false, ob_mk (show dalenG tb0 sI.1 30 = some 5 from rfl), show wadd 3 1 = 4 by decide +kernel, show wle 5 4 = false by decide +kernel, cond_false, ob_mk (show f_X5_at tb0 sI.1 30 4 = some 56 from rfl), dl_2, dl_2, dl_2, show wdiv 1 2 = 0 by decide +kernel]
  cases wlt b 56 with
  | true => rw [cond_true]; exact k0_3_0 hb n
  | false => rw [cond_false]; exact k0_4_0 hb n
set_option maxRecDepth 100000 in
theorem k0_3_2 {b : Nat} (hb : ∀ c ∈ [42, 44, 50, 52, 56], weq c b = false) (n : Nat) : lp_X4_rankOf tb0 sI.1 (n + 3) b 30 3 2 = some 4294967295 := by
  rw [show n + 3 = (n + 2) + 1 from rfl, lp_X4_rankOf_s0]
  unfold lb0_X4_rankOf
  rw [show wle 2 0 = false by decide +kernel, cond_false, ob_mk (show dalenG tb0 sI.1 30 = some 5 from rfl), show wadd 3 2 = 5 by decide +kernel, show wle 5 5 = true by decide +kernel, cond_true, dl_2, show wdiv 2 2 = 1 by decide +kernel]
  exact k0_3_1 hb n
set_option maxRecDepth 100000 in
theorem k0_m_4 {b : Nat} (hb : ∀ c ∈ [42, 44, 50, 52, 56], weq c b = false) (n : Nat) : lp_X4_rankOf tb0 sI.1 (n + 4) b 30 4294967295 4 = some 4294967295 := by
  rw [show n + 4 = (n + 3) + 1 from rfl, lp_X4_rankOf_s0]
  unfold lb0_X4_rankOf
  rw [show wle 4 0 = false by decide +kernel, cond_false, ob_mk (show dalenG tb0 sI.1 30 = some 5 from rfl), show wadd 4294967295 4 = 3 by decide +kernel, show wle 5 3 = false by decide +kernel, cond_false, ob_mk (show f_X5_at tb0 sI.1 30 3 = some 52 from rfl), dl_2, dl_2, dl_2, show wdiv 4 2 = 2 by decide +kernel]
  cases wlt b 52 with
  | true => rw [cond_true]; exact k0_m_2 hb n
  | false => rw [cond_false]; exact k0_3_2 hb n
set_option maxRecDepth 100000 in
theorem k0_m_8 {b : Nat} (hb : ∀ c ∈ [42, 44, 50, 52, 56], weq c b = false) (n : Nat) : lp_X4_rankOf tb0 sI.1 (n + 5) b 30 4294967295 8 = some 4294967295 := by
  rw [show n + 5 = (n + 4) + 1 from rfl, lp_X4_rankOf_s0]
  unfold lb0_X4_rankOf
  rw [show wle 8 0 = false by decide +kernel, cond_false, ob_mk (show dalenG tb0 sI.1 30 = some 5 from rfl), show wadd 4294967295 8 = 7 by decide +kernel, show wle 5 7 = true by decide +kernel, cond_true, dl_2, show wdiv 8 2 = 4 by decide +kernel]
  exact k0_m_4 hb n
set_option maxRecDepth 100000 in
theorem k0_m_16 {b : Nat} (hb : ∀ c ∈ [42, 44, 50, 52, 56], weq c b = false) (n : Nat) : lp_X4_rankOf tb0 sI.1 (n + 6) b 30 4294967295 16 = some 4294967295 := by
  rw [show n + 6 = (n + 5) + 1 from rfl, lp_X4_rankOf_s0]
  unfold lb0_X4_rankOf
  rw [show wle 16 0 = false by decide +kernel, cond_false, ob_mk (show dalenG tb0 sI.1 30 = some 5 from rfl), show wadd 4294967295 16 = 15 by decide +kernel, show wle 5 15 = true by decide +kernel, cond_true, dl_2, show wdiv 16 2 = 8 by decide +kernel]
  exact k0_m_8 hb n
set_option maxRecDepth 100000 in
theorem k0_m_32 {b : Nat} (hb : ∀ c ∈ [42, 44, 50, 52, 56], weq c b = false) (n : Nat) : lp_X4_rankOf tb0 sI.1 (n + 7) b 30 4294967295 32 = some 4294967295 := by
  rw [show n + 7 = (n + 6) + 1 from rfl, lp_X4_rankOf_s0]
  unfold lb0_X4_rankOf
  rw [show wle 32 0 = false by decide +kernel, cond_false, ob_mk (show dalenG tb0 sI.1 30 = some 5 from rfl), show wadd 4294967295 32 = 31 by decide +kernel, show wle 5 31 = true by decide +kernel, cond_true, dl_2, show wdiv 32 2 = 16 by decide +kernel]
  exact k0_m_16 hb n
set_option maxRecDepth 100000 in
theorem k0_m_64 {b : Nat} (hb : ∀ c ∈ [42, 44, 50, 52, 56], weq c b = false) (n : Nat) : lp_X4_rankOf tb0 sI.1 (n + 8) b 30 4294967295 64 = some 4294967295 := by
  rw [show n + 8 = (n + 7) + 1 from rfl, lp_X4_rankOf_s0]
  unfold lb0_X4_rankOf
  rw [show wle 64 0 = false by decide +kernel, cond_false, ob_mk (show dalenG tb0 sI.1 30 = some 5 from rfl), show wadd 4294967295 64 = 63 by decide +kernel, show wle 5 63 = true by decide +kernel, cond_true, dl_2, show wdiv 64 2 = 32 by decide +kernel]
  exact k0_m_32 hb n
set_option maxRecDepth 100000 in
theorem k0_m_128 {b : Nat} (hb : ∀ c ∈ [42, 44, 50, 52, 56], weq c b = false) (n : Nat) : lp_X4_rankOf tb0 sI.1 (n + 9) b 30 4294967295 128 = some 4294967295 := by
  rw [show n + 9 = (n + 8) + 1 from rfl, lp_X4_rankOf_s0]
  unfold lb0_X4_rankOf
  rw [show wle 128 0 = false by decide +kernel, cond_false, ob_mk (show dalenG tb0 sI.1 30 = some 5 from rfl), show wadd 4294967295 128 = 127 by decide +kernel, show wle 5 127 = true by decide +kernel, cond_true, dl_2, show wdiv 128 2 = 64 by decide +kernel]
  exact k0_m_64 hb n
set_option maxRecDepth 100000 in
theorem k0_m_256 {b : Nat} (hb : ∀ c ∈ [42, 44, 50, 52, 56], weq c b = false) (n : Nat) : lp_X4_rankOf tb0 sI.1 (n + 10) b 30 4294967295 256 = some 4294967295 := by
  rw [show n + 10 = (n + 9) + 1 from rfl, lp_X4_rankOf_s0]
  unfold lb0_X4_rankOf
  rw [show wle 256 0 = false by decide +kernel, cond_false, ob_mk (show dalenG tb0 sI.1 30 = some 5 from rfl), show wadd 4294967295 256 = 255 by decide +kernel, show wle 5 255 = true by decide +kernel, cond_true, dl_2, show wdiv 256 2 = 128 by decide +kernel]
  exact k0_m_128 hb n
set_option maxRecDepth 100000 in
theorem k0_m_512 {b : Nat} (hb : ∀ c ∈ [42, 44, 50, 52, 56], weq c b = false) (n : Nat) : lp_X4_rankOf tb0 sI.1 (n + 11) b 30 4294967295 512 = some 4294967295 := by
  rw [show n + 11 = (n + 10) + 1 from rfl, lp_X4_rankOf_s0]
  unfold lb0_X4_rankOf
  rw [show wle 512 0 = false by decide +kernel, cond_false, ob_mk (show dalenG tb0 sI.1 30 = some 5 from rfl), show wadd 4294967295 512 = 511 by decide +kernel, show wle 5 511 = true by decide +kernel, cond_true, dl_2, show wdiv 512 2 = 256 by decide +kernel]
  exact k0_m_256 hb n
set_option maxRecDepth 100000 in
theorem rankOf_no0 {b : Nat} (hb : ∀ c ∈ [42, 44, 50, 52, 56], weq c b = false) : f_X4_rankOf tb0 sI.1 29 0 b = some 4294967295 := by
  unfold f_X4_rankOf
  rw [ob_mk (show dtag nS c_X4 sI.1 29 = some () from rfl), ob_mk (show f_X4_codes sI.1 29 0 = some 30 from rfl), show dF = 99989 + 11 from rfl]
  exact k0_m_512 hb 99989
set_option maxRecDepth 100000 in
theorem rankOf_no1 {b : Nat} (hb : ∀ c ∈ [42, 44, 50, 52, 56], weq c b = false) : f_X4_rankOf tb0 sI.1 29 1 b = some 4294967295 := by
  unfold f_X4_rankOf
  rw [ob_mk (show dtag nS c_X4 sI.1 29 = some () from rfl), ob_mk (show f_X4_codes sI.1 29 1 = some 30 from rfl), show dF = 99989 + 11 from rfl]
  exact k0_m_512 hb 99989
set_option maxRecDepth 100000 in
theorem jsTh0_0_m_2 {b : Nat} (hb : ∀ c ∈ [42, 44, 50, 52, 56], weq c b = false) (n : Nat) : lp_X12_index tb0 sTh.1 (n + 2) 70 0 b 0 4294967295 = some 4294967295 := by
  rw [show n + 2 = (n + 1) + 1 from rfl, lp_X12_index_s0]
  unfold lb0_X12_index
  rw [show wlt 4294967295 0 = true by decide +kernel, cond_true]
set_option maxRecDepth 100000 in
theorem jsTh0_1_0_1 {b : Nat} (hb : ∀ c ∈ [42, 44, 50, 52, 56], weq c b = false) (n : Nat) : lp_X12_index tb0 sTh.1 (n + 1) 70 0 b 1 0 = some 4294967295 := by
  rw [show n + 1 = (n + 0) + 1 from rfl, lp_X12_index_s0]
  unfold lb0_X12_index
  rw [show wlt 0 1 = true by decide +kernel, cond_true]
set_option maxRecDepth 100000 in
theorem jsTh0_2_1_1 {b : Nat} (hb : ∀ c ∈ [42, 44, 50, 52, 56], weq c b = false) (n : Nat) : lp_X12_index tb0 sTh.1 (n + 1) 70 0 b 2 1 = some 4294967295 := by
  rw [show n + 1 = (n + 0) + 1 from rfl, lp_X12_index_s0]
  unfold lb0_X12_index
  rw [show wlt 1 2 = true by decide +kernel, cond_true]
set_option maxRecDepth 100000 in
theorem jsTh0_1_1_2 {b : Nat} (hb : ∀ c ∈ [42, 44, 50, 52, 56], weq c b = false) (n : Nat) : lp_X12_index tb0 sTh.1 (n + 2) 70 0 b 1 1 = some 4294967295 := by
  rw [show n + 2 = (n + 1) + 1 from rfl, lp_X12_index_s0]
  unfold lb0_X12_index
  rw [show wlt 1 1 = false by decide +kernel, cond_false, dl_2, show wdiv (wadd 1 1) 2 = 1 by decide +kernel, ob_mk (show dgR nS c_X12 2 sTh.1 70 = some 71 from rfl), ob_mk (show daldA nS sTh.1 71 0 = some 79 from rfl), ob_mk (show daldG tb0 sTh.1 79 1 = some 44 from rfl), hb 44 (by decide), show (!false) = true from rfl, cond_true, ob_mk (show dgR nS c_X12 2 sTh.1 70 = some 71 from rfl), ob_mk (show daldA nS sTh.1 71 0 = some 79 from rfl), ob_mk (show daldG tb0 sTh.1 79 1 = some 44 from rfl), dl_2, dl_2, show wsub 1 1 = 0 by decide +kernel, show wadd 1 1 = 2 by decide +kernel]
  cases wle b 44 with
  | true => rw [cond_true]; exact jsTh0_1_0_1 hb n
  | false => rw [cond_false]; exact jsTh0_2_1_1 hb n
set_option maxRecDepth 100000 in
theorem jsTh0_0_1_3 {b : Nat} (hb : ∀ c ∈ [42, 44, 50, 52, 56], weq c b = false) (n : Nat) : lp_X12_index tb0 sTh.1 (n + 3) 70 0 b 0 1 = some 4294967295 := by
  rw [show n + 3 = (n + 2) + 1 from rfl, lp_X12_index_s0]
  unfold lb0_X12_index
  rw [show wlt 1 0 = false by decide +kernel, cond_false, dl_2, show wdiv (wadd 0 1) 2 = 0 by decide +kernel, ob_mk (show dgR nS c_X12 2 sTh.1 70 = some 71 from rfl), ob_mk (show daldA nS sTh.1 71 0 = some 79 from rfl), ob_mk (show daldG tb0 sTh.1 79 0 = some 42 from rfl), hb 42 (by decide), show (!false) = true from rfl, cond_true, ob_mk (show dgR nS c_X12 2 sTh.1 70 = some 71 from rfl), ob_mk (show daldA nS sTh.1 71 0 = some 79 from rfl), ob_mk (show daldG tb0 sTh.1 79 0 = some 42 from rfl), dl_2, dl_2, show wsub 0 1 = 4294967295 by decide +kernel, show wadd 0 1 = 1 by decide +kernel]
  cases wle b 42 with
  | true => rw [cond_true]; exact jsTh0_0_m_2 hb n
  | false => rw [cond_false]; exact jsTh0_1_1_2 hb n
set_option maxRecDepth 100000 in
theorem jsTh0_3_2_2 {b : Nat} (hb : ∀ c ∈ [42, 44, 50, 52, 56], weq c b = false) (n : Nat) : lp_X12_index tb0 sTh.1 (n + 2) 70 0 b 3 2 = some 4294967295 := by
  rw [show n + 2 = (n + 1) + 1 from rfl, lp_X12_index_s0]
  unfold lb0_X12_index
  rw [show wlt 2 3 = true by decide +kernel, cond_true]
set_option maxRecDepth 100000 in
theorem jsTh0_4_3_1 {b : Nat} (hb : ∀ c ∈ [42, 44, 50, 52, 56], weq c b = false) (n : Nat) : lp_X12_index tb0 sTh.1 (n + 1) 70 0 b 4 3 = some 4294967295 := by
  rw [show n + 1 = (n + 0) + 1 from rfl, lp_X12_index_s0]
  unfold lb0_X12_index
  rw [show wlt 3 4 = true by decide +kernel, cond_true]
set_option maxRecDepth 100000 in
theorem jsTh0_5_4_1 {b : Nat} (hb : ∀ c ∈ [42, 44, 50, 52, 56], weq c b = false) (n : Nat) : lp_X12_index tb0 sTh.1 (n + 1) 70 0 b 5 4 = some 4294967295 := by
  rw [show n + 1 = (n + 0) + 1 from rfl, lp_X12_index_s0]
  unfold lb0_X12_index
  rw [show wlt 4 5 = true by decide +kernel, cond_true]
set_option maxRecDepth 100000 in
theorem jsTh0_4_4_2 {b : Nat} (hb : ∀ c ∈ [42, 44, 50, 52, 56], weq c b = false) (n : Nat) : lp_X12_index tb0 sTh.1 (n + 2) 70 0 b 4 4 = some 4294967295 := by
  rw [show n + 2 = (n + 1) + 1 from rfl, lp_X12_index_s0]
  unfold lb0_X12_index
  rw [show wlt 4 4 = false by decide +kernel, cond_false, dl_2, show wdiv (wadd 4 4) 2 = 4 by decide +kernel, ob_mk (show dgR nS c_X12 2 sTh.1 70 = some 71 from rfl), ob_mk (show daldA nS sTh.1 71 0 = some 79 from rfl), ob_mk (show daldG tb0 sTh.1 79 4 = some 56 from rfl), hb 56 (by decide), show (!false) = true from rfl, cond_true, ob_mk (show dgR nS c_X12 2 sTh.1 70 = some 71 from rfl), ob_mk (show daldA nS sTh.1 71 0 = some 79 from rfl), ob_mk (show daldG tb0 sTh.1 79 4 = some 56 from rfl), dl_2, dl_2, show wsub 4 1 = 3 by decide +kernel, show wadd 4 1 = 5 by decide +kernel]
  cases wle b 56 with
  | true => rw [cond_true]; exact jsTh0_4_3_1 hb n
  | false => rw [cond_false]; exact jsTh0_5_4_1 hb n
set_option maxRecDepth 100000 in
theorem jsTh0_3_4_3 {b : Nat} (hb : ∀ c ∈ [42, 44, 50, 52, 56], weq c b = false) (n : Nat) : lp_X12_index tb0 sTh.1 (n + 3) 70 0 b 3 4 = some 4294967295 := by
  rw [show n + 3 = (n + 2) + 1 from rfl, lp_X12_index_s0]
  unfold lb0_X12_index
  rw [show wlt 4 3 = false by decide +kernel, cond_false, dl_2, show wdiv (wadd 3 4) 2 = 3 by decide +kernel, ob_mk (show dgR nS c_X12 2 sTh.1 70 = some 71 from rfl), ob_mk (show daldA nS sTh.1 71 0 = some 79 from rfl), ob_mk (show daldG tb0 sTh.1 79 3 = some 52 from rfl), hb 52 (by decide), show (!false) = true from rfl, cond_true, ob_mk (show dgR nS c_X12 2 sTh.1 70 = some 71 from rfl), ob_mk (show daldA nS sTh.1 71 0 = some 79 from rfl), ob_mk (show daldG tb0 sTh.1 79 3 = some 52 from rfl), dl_2, dl_2, show wsub 3 1 = 2 by decide +kernel, show wadd 3 1 = 4 by decide +kernel]
  cases wle b 52 with
  | true => rw [cond_true]; exact jsTh0_3_2_2 hb n
  | false => rw [cond_false]; exact jsTh0_4_4_2 hb n
set_option maxRecDepth 100000 in
theorem jsTh0_0_4_4 {b : Nat} (hb : ∀ c ∈ [42, 44, 50, 52, 56], weq c b = false) (n : Nat) : lp_X12_index tb0 sTh.1 (n + 4) 70 0 b 0 4 = some 4294967295 := by
  rw [show n + 4 = (n + 3) + 1 from rfl, lp_X12_index_s0]
  unfold lb0_X12_index
  rw [show wlt 4 0 = false by decide +kernel, cond_false, dl_2, show wdiv (wadd 0 4) 2 = 2 by decide +kernel, ob_mk (show dgR nS c_X12 2 sTh.1 70 = some 71 from rfl), ob_mk (show daldA nS sTh.1 71 0 = some 79 from rfl), ob_mk (show daldG tb0 sTh.1 79 2 = some 50 from rfl), hb 50 (by decide), show (!false) = true from rfl, cond_true, ob_mk (show dgR nS c_X12 2 sTh.1 70 = some 71 from rfl), ob_mk (show daldA nS sTh.1 71 0 = some 79 from rfl), ob_mk (show daldG tb0 sTh.1 79 2 = some 50 from rfl), dl_2, dl_2, show wsub 2 1 = 1 by decide +kernel, show wadd 2 1 = 3 by decide +kernel]
  cases wle b 50 with
  | true => rw [cond_true]; exact jsTh0_0_1_3 hb n
  | false => rw [cond_false]; exact jsTh0_3_4_3 hb n
set_option maxRecDepth 100000 in
theorem index_no_sTh0 {b : Nat} (hb : ∀ c ∈ [42, 44, 50, 52, 56], weq c b = false) : f_X12_index tb0 sTh.1 70 0 b = some 4294967295 := by
  unfold f_X12_index
  rw [ob_mk (show dgR nS c_X12 2 sTh.1 70 = some 71 from rfl), ob_mk (show daldA nS sTh.1 71 0 = some 79 from rfl), ob_mk (show dalenG tb0 sTh.1 79 = some 5 from rfl), dl_2, show wsub 5 1 = 4 by decide +kernel, show dF = 99996 + 4 from rfl]
  exact jsTh0_0_4_4 hb 99996
set_option maxRecDepth 100000 in
theorem jsTh1_0_m_2 {b : Nat} (hb : ∀ c ∈ [42, 44, 50, 52, 56], weq c b = false) (n : Nat) : lp_X12_index tb0 sTh.1 (n + 2) 70 1 b 0 4294967295 = some 4294967295 := by
  rw [show n + 2 = (n + 1) + 1 from rfl, lp_X12_index_s0]
  unfold lb0_X12_index
  rw [show wlt 4294967295 0 = true by decide +kernel, cond_true]
set_option maxRecDepth 100000 in
theorem jsTh1_1_0_1 {b : Nat} (hb : ∀ c ∈ [42, 44, 50, 52, 56], weq c b = false) (n : Nat) : lp_X12_index tb0 sTh.1 (n + 1) 70 1 b 1 0 = some 4294967295 := by
  rw [show n + 1 = (n + 0) + 1 from rfl, lp_X12_index_s0]
  unfold lb0_X12_index
  rw [show wlt 0 1 = true by decide +kernel, cond_true]
set_option maxRecDepth 100000 in
theorem jsTh1_2_1_1 {b : Nat} (hb : ∀ c ∈ [42, 44, 50, 52, 56], weq c b = false) (n : Nat) : lp_X12_index tb0 sTh.1 (n + 1) 70 1 b 2 1 = some 4294967295 := by
  rw [show n + 1 = (n + 0) + 1 from rfl, lp_X12_index_s0]
  unfold lb0_X12_index
  rw [show wlt 1 2 = true by decide +kernel, cond_true]
set_option maxRecDepth 100000 in
theorem jsTh1_1_1_2 {b : Nat} (hb : ∀ c ∈ [42, 44, 50, 52, 56], weq c b = false) (n : Nat) : lp_X12_index tb0 sTh.1 (n + 2) 70 1 b 1 1 = some 4294967295 := by
  rw [show n + 2 = (n + 1) + 1 from rfl, lp_X12_index_s0]
  unfold lb0_X12_index
  rw [show wlt 1 1 = false by decide +kernel, cond_false, dl_2, show wdiv (wadd 1 1) 2 = 1 by decide +kernel, ob_mk (show dgR nS c_X12 2 sTh.1 70 = some 71 from rfl), ob_mk (show daldA nS sTh.1 71 1 = some 79 from rfl), ob_mk (show daldG tb0 sTh.1 79 1 = some 44 from rfl), hb 44 (by decide), show (!false) = true from rfl, cond_true, ob_mk (show dgR nS c_X12 2 sTh.1 70 = some 71 from rfl), ob_mk (show daldA nS sTh.1 71 1 = some 79 from rfl), ob_mk (show daldG tb0 sTh.1 79 1 = some 44 from rfl), dl_2, dl_2, show wsub 1 1 = 0 by decide +kernel, show wadd 1 1 = 2 by decide +kernel]
  cases wle b 44 with
  | true => rw [cond_true]; exact jsTh1_1_0_1 hb n
  | false => rw [cond_false]; exact jsTh1_2_1_1 hb n
set_option maxRecDepth 100000 in
theorem jsTh1_0_1_3 {b : Nat} (hb : ∀ c ∈ [42, 44, 50, 52, 56], weq c b = false) (n : Nat) : lp_X12_index tb0 sTh.1 (n + 3) 70 1 b 0 1 = some 4294967295 := by
  rw [show n + 3 = (n + 2) + 1 from rfl, lp_X12_index_s0]
  unfold lb0_X12_index
  rw [show wlt 1 0 = false by decide +kernel, cond_false, dl_2, show wdiv (wadd 0 1) 2 = 0 by decide +kernel, ob_mk (show dgR nS c_X12 2 sTh.1 70 = some 71 from rfl), ob_mk (show daldA nS sTh.1 71 1 = some 79 from rfl), ob_mk (show daldG tb0 sTh.1 79 0 = some 42 from rfl), hb 42 (by decide), show (!false) = true from rfl, cond_true, ob_mk (show dgR nS c_X12 2 sTh.1 70 = some 71 from rfl), ob_mk (show daldA nS sTh.1 71 1 = some 79 from rfl), ob_mk (show daldG tb0 sTh.1 79 0 = some 42 from rfl), dl_2, dl_2, show wsub 0 1 = 4294967295 by decide +kernel, show wadd 0 1 = 1 by decide +kernel]
  cases wle b 42 with
  | true => rw [cond_true]; exact jsTh1_0_m_2 hb n
  | false => rw [cond_false]; exact jsTh1_1_1_2 hb n
set_option maxRecDepth 100000 in
theorem jsTh1_3_2_2 {b : Nat} (hb : ∀ c ∈ [42, 44, 50, 52, 56], weq c b = false) (n : Nat) : lp_X12_index tb0 sTh.1 (n + 2) 70 1 b 3 2 = some 4294967295 := by
  rw [show n + 2 = (n + 1) + 1 from rfl, lp_X12_index_s0]
  unfold lb0_X12_index
  rw [show wlt 2 3 = true by decide +kernel, cond_true]
set_option maxRecDepth 100000 in
theorem jsTh1_4_3_1 {b : Nat} (hb : ∀ c ∈ [42, 44, 50, 52, 56], weq c b = false) (n : Nat) : lp_X12_index tb0 sTh.1 (n + 1) 70 1 b 4 3 = some 4294967295 := by
  rw [show n + 1 = (n + 0) + 1 from rfl, lp_X12_index_s0]
  unfold lb0_X12_index
  rw [show wlt 3 4 = true by decide +kernel, cond_true]
set_option maxRecDepth 100000 in
theorem jsTh1_5_4_1 {b : Nat} (hb : ∀ c ∈ [42, 44, 50, 52, 56], weq c b = false) (n : Nat) : lp_X12_index tb0 sTh.1 (n + 1) 70 1 b 5 4 = some 4294967295 := by
  rw [show n + 1 = (n + 0) + 1 from rfl, lp_X12_index_s0]
  unfold lb0_X12_index
  rw [show wlt 4 5 = true by decide +kernel, cond_true]
set_option maxRecDepth 100000 in
theorem jsTh1_4_4_2 {b : Nat} (hb : ∀ c ∈ [42, 44, 50, 52, 56], weq c b = false) (n : Nat) : lp_X12_index tb0 sTh.1 (n + 2) 70 1 b 4 4 = some 4294967295 := by
  rw [show n + 2 = (n + 1) + 1 from rfl, lp_X12_index_s0]
  unfold lb0_X12_index
  rw [show wlt 4 4 = false by decide +kernel, cond_false, dl_2, show wdiv (wadd 4 4) 2 = 4 by decide +kernel, ob_mk (show dgR nS c_X12 2 sTh.1 70 = some 71 from rfl), ob_mk (show daldA nS sTh.1 71 1 = some 79 from rfl), ob_mk (show daldG tb0 sTh.1 79 4 = some 56 from rfl), hb 56 (by decide), show (!false) = true from rfl, cond_true, ob_mk (show dgR nS c_X12 2 sTh.1 70 = some 71 from rfl), ob_mk (show daldA nS sTh.1 71 1 = some 79 from rfl), ob_mk (show daldG tb0 sTh.1 79 4 = some 56 from rfl), dl_2, dl_2, show wsub 4 1 = 3 by decide +kernel, show wadd 4 1 = 5 by decide +kernel]
  cases wle b 56 with
  | true => rw [cond_true]; exact jsTh1_4_3_1 hb n
  | false => rw [cond_false]; exact jsTh1_5_4_1 hb n
set_option maxRecDepth 100000 in
theorem jsTh1_3_4_3 {b : Nat} (hb : ∀ c ∈ [42, 44, 50, 52, 56], weq c b = false) (n : Nat) : lp_X12_index tb0 sTh.1 (n + 3) 70 1 b 3 4 = some 4294967295 := by
  rw [show n + 3 = (n + 2) + 1 from rfl, lp_X12_index_s0]
  unfold lb0_X12_index
  rw [show wlt 4 3 = false by decide +kernel, cond_false, dl_2, show wdiv (wadd 3 4) 2 = 3 by decide +kernel, ob_mk (show dgR nS c_X12 2 sTh.1 70 = some 71 from rfl), ob_mk (show daldA nS sTh.1 71 1 = some 79 from rfl), ob_mk (show daldG tb0 sTh.1 79 3 = some 52 from rfl), hb 52 (by decide), show (!false) = true from rfl, cond_true, ob_mk (show dgR nS c_X12 2 sTh.1 70 = some 71 from rfl), ob_mk (show daldA nS sTh.1 71 1 = some 79 from rfl), ob_mk (show daldG tb0 sTh.1 79 3 = some 52 from rfl), dl_2, dl_2, show wsub 3 1 = 2 by decide +kernel, show wadd 3 1 = 4 by decide +kernel]
  cases wle b 52 with
  | true => rw [cond_true]; exact jsTh1_3_2_2 hb n
  | false => rw [cond_false]; exact jsTh1_4_4_2 hb n
set_option maxRecDepth 100000 in
theorem jsTh1_0_4_4 {b : Nat} (hb : ∀ c ∈ [42, 44, 50, 52, 56], weq c b = false) (n : Nat) : lp_X12_index tb0 sTh.1 (n + 4) 70 1 b 0 4 = some 4294967295 := by
  rw [show n + 4 = (n + 3) + 1 from rfl, lp_X12_index_s0]
  unfold lb0_X12_index
  rw [show wlt 4 0 = false by decide +kernel, cond_false, dl_2, show wdiv (wadd 0 4) 2 = 2 by decide +kernel, ob_mk (show dgR nS c_X12 2 sTh.1 70 = some 71 from rfl), ob_mk (show daldA nS sTh.1 71 1 = some 79 from rfl), ob_mk (show daldG tb0 sTh.1 79 2 = some 50 from rfl), hb 50 (by decide), show (!false) = true from rfl, cond_true, ob_mk (show dgR nS c_X12 2 sTh.1 70 = some 71 from rfl), ob_mk (show daldA nS sTh.1 71 1 = some 79 from rfl), ob_mk (show daldG tb0 sTh.1 79 2 = some 50 from rfl), dl_2, dl_2, show wsub 2 1 = 1 by decide +kernel, show wadd 2 1 = 3 by decide +kernel]
  cases wle b 50 with
  | true => rw [cond_true]; exact jsTh1_0_1_3 hb n
  | false => rw [cond_false]; exact jsTh1_3_4_3 hb n
set_option maxRecDepth 100000 in
theorem index_no_sTh1 {b : Nat} (hb : ∀ c ∈ [42, 44, 50, 52, 56], weq c b = false) : f_X12_index tb0 sTh.1 70 1 b = some 4294967295 := by
  unfold f_X12_index
  rw [ob_mk (show dgR nS c_X12 2 sTh.1 70 = some 71 from rfl), ob_mk (show daldA nS sTh.1 71 1 = some 79 from rfl), ob_mk (show dalenG tb0 sTh.1 79 = some 5 from rfl), dl_2, show wsub 5 1 = 4 by decide +kernel, show dF = 99996 + 4 from rfl]
  exact jsTh1_0_4_4 hb 99996
set_option maxRecDepth 100000 in
theorem jsO0_0_m_2 {b : Nat} (hb : ∀ c ∈ [42, 44, 50, 52, 56], weq c b = false) (n : Nat) : lp_X12_index tb0 sO.1 (n + 2) 70 0 b 0 4294967295 = some 4294967295 := by
  rw [show n + 2 = (n + 1) + 1 from rfl, lp_X12_index_s0]
  unfold lb0_X12_index
  rw [show wlt 4294967295 0 = true by decide +kernel, cond_true]
set_option maxRecDepth 100000 in
theorem jsO0_1_0_1 {b : Nat} (hb : ∀ c ∈ [42, 44, 50, 52, 56], weq c b = false) (n : Nat) : lp_X12_index tb0 sO.1 (n + 1) 70 0 b 1 0 = some 4294967295 := by
  rw [show n + 1 = (n + 0) + 1 from rfl, lp_X12_index_s0]
  unfold lb0_X12_index
  rw [show wlt 0 1 = true by decide +kernel, cond_true]
set_option maxRecDepth 100000 in
theorem jsO0_2_1_1 {b : Nat} (hb : ∀ c ∈ [42, 44, 50, 52, 56], weq c b = false) (n : Nat) : lp_X12_index tb0 sO.1 (n + 1) 70 0 b 2 1 = some 4294967295 := by
  rw [show n + 1 = (n + 0) + 1 from rfl, lp_X12_index_s0]
  unfold lb0_X12_index
  rw [show wlt 1 2 = true by decide +kernel, cond_true]
set_option maxRecDepth 100000 in
theorem jsO0_1_1_2 {b : Nat} (hb : ∀ c ∈ [42, 44, 50, 52, 56], weq c b = false) (n : Nat) : lp_X12_index tb0 sO.1 (n + 2) 70 0 b 1 1 = some 4294967295 := by
  rw [show n + 2 = (n + 1) + 1 from rfl, lp_X12_index_s0]
  unfold lb0_X12_index
  rw [show wlt 1 1 = false by decide +kernel, cond_false, dl_2, show wdiv (wadd 1 1) 2 = 1 by decide +kernel, ob_mk (show dgR nS c_X12 2 sO.1 70 = some 71 from rfl), ob_mk (show daldA nS sO.1 71 0 = some 79 from rfl), ob_mk (show daldG tb0 sO.1 79 1 = some 44 from rfl), hb 44 (by decide), show (!false) = true from rfl, cond_true, ob_mk (show dgR nS c_X12 2 sO.1 70 = some 71 from rfl), ob_mk (show daldA nS sO.1 71 0 = some 79 from rfl), ob_mk (show daldG tb0 sO.1 79 1 = some 44 from rfl), dl_2, dl_2, show wsub 1 1 = 0 by decide +kernel, show wadd 1 1 = 2 by decide +kernel]
  cases wle b 44 with
  | true => rw [cond_true]; exact jsO0_1_0_1 hb n
  | false => rw [cond_false]; exact jsO0_2_1_1 hb n
set_option maxRecDepth 100000 in
theorem jsO0_0_1_3 {b : Nat} (hb : ∀ c ∈ [42, 44, 50, 52, 56], weq c b = false) (n : Nat) : lp_X12_index tb0 sO.1 (n + 3) 70 0 b 0 1 = some 4294967295 := by
  rw [show n + 3 = (n + 2) + 1 from rfl, lp_X12_index_s0]
  unfold lb0_X12_index
  rw [show wlt 1 0 = false by decide +kernel, cond_false, dl_2, show wdiv (wadd 0 1) 2 = 0 by decide +kernel, ob_mk (show dgR nS c_X12 2 sO.1 70 = some 71 from rfl), ob_mk (show daldA nS sO.1 71 0 = some 79 from rfl), ob_mk (show daldG tb0 sO.1 79 0 = some 42 from rfl), hb 42 (by decide), show (!false) = true from rfl, cond_true, ob_mk (show dgR nS c_X12 2 sO.1 70 = some 71 from rfl), ob_mk (show daldA nS sO.1 71 0 = some 79 from rfl), ob_mk (show daldG tb0 sO.1 79 0 = some 42 from rfl), dl_2, dl_2, show wsub 0 1 = 4294967295 by decide +kernel, show wadd 0 1 = 1 by decide +kernel]
  cases wle b 42 with
  | true => rw [cond_true]; exact jsO0_0_m_2 hb n
  | false => rw [cond_false]; exact jsO0_1_1_2 hb n
set_option maxRecDepth 100000 in
theorem jsO0_3_2_2 {b : Nat} (hb : ∀ c ∈ [42, 44, 50, 52, 56], weq c b = false) (n : Nat) : lp_X12_index tb0 sO.1 (n + 2) 70 0 b 3 2 = some 4294967295 := by
  rw [show n + 2 = (n + 1) + 1 from rfl, lp_X12_index_s0]
  unfold lb0_X12_index
  rw [show wlt 2 3 = true by decide +kernel, cond_true]
set_option maxRecDepth 100000 in
theorem jsO0_4_3_1 {b : Nat} (hb : ∀ c ∈ [42, 44, 50, 52, 56], weq c b = false) (n : Nat) : lp_X12_index tb0 sO.1 (n + 1) 70 0 b 4 3 = some 4294967295 := by
  rw [show n + 1 = (n + 0) + 1 from rfl, lp_X12_index_s0]
  unfold lb0_X12_index
  rw [show wlt 3 4 = true by decide +kernel, cond_true]
set_option maxRecDepth 100000 in
theorem jsO0_5_4_1 {b : Nat} (hb : ∀ c ∈ [42, 44, 50, 52, 56], weq c b = false) (n : Nat) : lp_X12_index tb0 sO.1 (n + 1) 70 0 b 5 4 = some 4294967295 := by
  rw [show n + 1 = (n + 0) + 1 from rfl, lp_X12_index_s0]
  unfold lb0_X12_index
  rw [show wlt 4 5 = true by decide +kernel, cond_true]
set_option maxRecDepth 100000 in
theorem jsO0_4_4_2 {b : Nat} (hb : ∀ c ∈ [42, 44, 50, 52, 56], weq c b = false) (n : Nat) : lp_X12_index tb0 sO.1 (n + 2) 70 0 b 4 4 = some 4294967295 := by
  rw [show n + 2 = (n + 1) + 1 from rfl, lp_X12_index_s0]
  unfold lb0_X12_index
  rw [show wlt 4 4 = false by decide +kernel, cond_false, dl_2, show wdiv (wadd 4 4) 2 = 4 by decide +kernel, ob_mk (show dgR nS c_X12 2 sO.1 70 = some 71 from rfl), ob_mk (show daldA nS sO.1 71 0 = some 79 from rfl), ob_mk (show daldG tb0 sO.1 79 4 = some 56 from rfl), hb 56 (by decide), show (!false) = true from rfl, cond_true, ob_mk (show dgR nS c_X12 2 sO.1 70 = some 71 from rfl), ob_mk (show daldA nS sO.1 71 0 = some 79 from rfl), ob_mk (show daldG tb0 sO.1 79 4 = some 56 from rfl), dl_2, dl_2, show wsub 4 1 = 3 by decide +kernel, show wadd 4 1 = 5 by decide +kernel]
  cases wle b 56 with
  | true => rw [cond_true]; exact jsO0_4_3_1 hb n
  | false => rw [cond_false]; exact jsO0_5_4_1 hb n
set_option maxRecDepth 100000 in
theorem jsO0_3_4_3 {b : Nat} (hb : ∀ c ∈ [42, 44, 50, 52, 56], weq c b = false) (n : Nat) : lp_X12_index tb0 sO.1 (n + 3) 70 0 b 3 4 = some 4294967295 := by
  rw [show n + 3 = (n + 2) + 1 from rfl, lp_X12_index_s0]
  unfold lb0_X12_index
  rw [show wlt 4 3 = false by decide +kernel, cond_false, dl_2, show wdiv (wadd 3 4) 2 = 3 by decide +kernel, ob_mk (show dgR nS c_X12 2 sO.1 70 = some 71 from rfl), ob_mk (show daldA nS sO.1 71 0 = some 79 from rfl), ob_mk (show daldG tb0 sO.1 79 3 = some 52 from rfl), hb 52 (by decide), show (!false) = true from rfl, cond_true, ob_mk (show dgR nS c_X12 2 sO.1 70 = some 71 from rfl), ob_mk (show daldA nS sO.1 71 0 = some 79 from rfl), ob_mk (show daldG tb0 sO.1 79 3 = some 52 from rfl), dl_2, dl_2, show wsub 3 1 = 2 by decide +kernel, show wadd 3 1 = 4 by decide +kernel]
  cases wle b 52 with
  | true => rw [cond_true]; exact jsO0_3_2_2 hb n
  | false => rw [cond_false]; exact jsO0_4_4_2 hb n
set_option maxRecDepth 100000 in
theorem jsO0_0_4_4 {b : Nat} (hb : ∀ c ∈ [42, 44, 50, 52, 56], weq c b = false) (n : Nat) : lp_X12_index tb0 sO.1 (n + 4) 70 0 b 0 4 = some 4294967295 := by
  rw [show n + 4 = (n + 3) + 1 from rfl, lp_X12_index_s0]
  unfold lb0_X12_index
  rw [show wlt 4 0 = false by decide +kernel, cond_false, dl_2, show wdiv (wadd 0 4) 2 = 2 by decide +kernel, ob_mk (show dgR nS c_X12 2 sO.1 70 = some 71 from rfl), ob_mk (show daldA nS sO.1 71 0 = some 79 from rfl), ob_mk (show daldG tb0 sO.1 79 2 = some 50 from rfl), hb 50 (by decide), show (!false) = true from rfl, cond_true, ob_mk (show dgR nS c_X12 2 sO.1 70 = some 71 from rfl), ob_mk (show daldA nS sO.1 71 0 = some 79 from rfl), ob_mk (show daldG tb0 sO.1 79 2 = some 50 from rfl), dl_2, dl_2, show wsub 2 1 = 1 by decide +kernel, show wadd 2 1 = 3 by decide +kernel]
  cases wle b 50 with
  | true => rw [cond_true]; exact jsO0_0_1_3 hb n
  | false => rw [cond_false]; exact jsO0_3_4_3 hb n
set_option maxRecDepth 100000 in
theorem index_no_sO0 {b : Nat} (hb : ∀ c ∈ [42, 44, 50, 52, 56], weq c b = false) : f_X12_index tb0 sO.1 70 0 b = some 4294967295 := by
  unfold f_X12_index
  rw [ob_mk (show dgR nS c_X12 2 sO.1 70 = some 71 from rfl), ob_mk (show daldA nS sO.1 71 0 = some 79 from rfl), ob_mk (show dalenG tb0 sO.1 79 = some 5 from rfl), dl_2, show wsub 5 1 = 4 by decide +kernel, show dF = 99996 + 4 from rfl]
  exact jsO0_0_4_4 hb 99996
set_option maxRecDepth 100000 in
theorem jsO1_0_m_2 {b : Nat} (hb : ∀ c ∈ [42, 44, 50, 52, 56], weq c b = false) (n : Nat) : lp_X12_index tb0 sO.1 (n + 2) 70 1 b 0 4294967295 = some 4294967295 := by
  rw [show n + 2 = (n + 1) + 1 from rfl, lp_X12_index_s0]
  unfold lb0_X12_index
  rw [show wlt 4294967295 0 = true by decide +kernel, cond_true]
set_option maxRecDepth 100000 in
theorem jsO1_1_0_1 {b : Nat} (hb : ∀ c ∈ [42, 44, 50, 52, 56], weq c b = false) (n : Nat) : lp_X12_index tb0 sO.1 (n + 1) 70 1 b 1 0 = some 4294967295 := by
  rw [show n + 1 = (n + 0) + 1 from rfl, lp_X12_index_s0]
  unfold lb0_X12_index
  rw [show wlt 0 1 = true by decide +kernel, cond_true]
set_option maxRecDepth 100000 in
theorem jsO1_2_1_1 {b : Nat} (hb : ∀ c ∈ [42, 44, 50, 52, 56], weq c b = false) (n : Nat) : lp_X12_index tb0 sO.1 (n + 1) 70 1 b 2 1 = some 4294967295 := by
  rw [show n + 1 = (n + 0) + 1 from rfl, lp_X12_index_s0]
  unfold lb0_X12_index
  rw [show wlt 1 2 = true by decide +kernel, cond_true]
set_option maxRecDepth 100000 in
theorem jsO1_1_1_2 {b : Nat} (hb : ∀ c ∈ [42, 44, 50, 52, 56], weq c b = false) (n : Nat) : lp_X12_index tb0 sO.1 (n + 2) 70 1 b 1 1 = some 4294967295 := by
  rw [show n + 2 = (n + 1) + 1 from rfl, lp_X12_index_s0]
  unfold lb0_X12_index
  rw [show wlt 1 1 = false by decide +kernel, cond_false, dl_2, show wdiv (wadd 1 1) 2 = 1 by decide +kernel, ob_mk (show dgR nS c_X12 2 sO.1 70 = some 71 from rfl), ob_mk (show daldA nS sO.1 71 1 = some 79 from rfl), ob_mk (show daldG tb0 sO.1 79 1 = some 44 from rfl), hb 44 (by decide), show (!false) = true from rfl, cond_true, ob_mk (show dgR nS c_X12 2 sO.1 70 = some 71 from rfl), ob_mk (show daldA nS sO.1 71 1 = some 79 from rfl), ob_mk (show daldG tb0 sO.1 79 1 = some 44 from rfl), dl_2, dl_2, show wsub 1 1 = 0 by decide +kernel, show wadd 1 1 = 2 by decide +kernel]
  cases wle b 44 with
  | true => rw [cond_true]; exact jsO1_1_0_1 hb n
  | false => rw [cond_false]; exact jsO1_2_1_1 hb n
set_option maxRecDepth 100000 in
theorem jsO1_0_1_3 {b : Nat} (hb : ∀ c ∈ [42, 44, 50, 52, 56], weq c b = false) (n : Nat) : lp_X12_index tb0 sO.1 (n + 3) 70 1 b 0 1 = some 4294967295 := by
  rw [show n + 3 = (n + 2) + 1 from rfl, lp_X12_index_s0]
  unfold lb0_X12_index
  rw [show wlt 1 0 = false by decide +kernel, cond_false, dl_2, show wdiv (wadd 0 1) 2 = 0 by decide +kernel, ob_mk (show dgR nS c_X12 2 sO.1 70 = some 71 from rfl), ob_mk (show daldA nS sO.1 71 1 = some 79 from rfl), ob_mk (show daldG tb0 sO.1 79 0 = some 42 from rfl), hb 42 (by decide), show (!false) = true from rfl, cond_true, ob_mk (show dgR nS c_X12 2 sO.1 70 = some 71 from rfl), ob_mk (show daldA nS sO.1 71 1 = some 79 from rfl), ob_mk (show daldG tb0 sO.1 79 0 = some 42 from rfl), dl_2, dl_2, show wsub 0 1 = 4294967295 by decide +kernel, show wadd 0 1 = 1 by decide +kernel]
  cases wle b 42 with
  | true => rw [cond_true]; exact jsO1_0_m_2 hb n
  | false => rw [cond_false]; exact jsO1_1_1_2 hb n
set_option maxRecDepth 100000 in
theorem jsO1_3_2_2 {b : Nat} (hb : ∀ c ∈ [42, 44, 50, 52, 56], weq c b = false) (n : Nat) : lp_X12_index tb0 sO.1 (n + 2) 70 1 b 3 2 = some 4294967295 := by
  rw [show n + 2 = (n + 1) + 1 from rfl, lp_X12_index_s0]
  unfold lb0_X12_index
  rw [show wlt 2 3 = true by decide +kernel, cond_true]
set_option maxRecDepth 100000 in
theorem jsO1_4_3_1 {b : Nat} (hb : ∀ c ∈ [42, 44, 50, 52, 56], weq c b = false) (n : Nat) : lp_X12_index tb0 sO.1 (n + 1) 70 1 b 4 3 = some 4294967295 := by
  rw [show n + 1 = (n + 0) + 1 from rfl, lp_X12_index_s0]
  unfold lb0_X12_index
  rw [show wlt 3 4 = true by decide +kernel, cond_true]
set_option maxRecDepth 100000 in
theorem jsO1_5_4_1 {b : Nat} (hb : ∀ c ∈ [42, 44, 50, 52, 56], weq c b = false) (n : Nat) : lp_X12_index tb0 sO.1 (n + 1) 70 1 b 5 4 = some 4294967295 := by
  rw [show n + 1 = (n + 0) + 1 from rfl, lp_X12_index_s0]
  unfold lb0_X12_index
  rw [show wlt 4 5 = true by decide +kernel, cond_true]
set_option maxRecDepth 100000 in
theorem jsO1_4_4_2 {b : Nat} (hb : ∀ c ∈ [42, 44, 50, 52, 56], weq c b = false) (n : Nat) : lp_X12_index tb0 sO.1 (n + 2) 70 1 b 4 4 = some 4294967295 := by
  rw [show n + 2 = (n + 1) + 1 from rfl, lp_X12_index_s0]
  unfold lb0_X12_index
  rw [show wlt 4 4 = false by decide +kernel, cond_false, dl_2, show wdiv (wadd 4 4) 2 = 4 by decide +kernel, ob_mk (show dgR nS c_X12 2 sO.1 70 = some 71 from rfl), ob_mk (show daldA nS sO.1 71 1 = some 79 from rfl), ob_mk (show daldG tb0 sO.1 79 4 = some 56 from rfl), hb 56 (by decide), show (!false) = true from rfl, cond_true, ob_mk (show dgR nS c_X12 2 sO.1 70 = some 71 from rfl), ob_mk (show daldA nS sO.1 71 1 = some 79 from rfl), ob_mk (show daldG tb0 sO.1 79 4 = some 56 from rfl), dl_2, dl_2, show wsub 4 1 = 3 by decide +kernel, show wadd 4 1 = 5 by decide +kernel]
  cases wle b 56 with
  | true => rw [cond_true]; exact jsO1_4_3_1 hb n
  | false => rw [cond_false]; exact jsO1_5_4_1 hb n
set_option maxRecDepth 100000 in
theorem jsO1_3_4_3 {b : Nat} (hb : ∀ c ∈ [42, 44, 50, 52, 56], weq c b = false) (n : Nat) : lp_X12_index tb0 sO.1 (n + 3) 70 1 b 3 4 = some 4294967295 := by
  rw [show n + 3 = (n + 2) + 1 from rfl, lp_X12_index_s0]
  unfold lb0_X12_index
  rw [show wlt 4 3 = false by decide +kernel, cond_false, dl_2, show wdiv (wadd 3 4) 2 = 3 by decide +kernel, ob_mk (show dgR nS c_X12 2 sO.1 70 = some 71 from rfl), ob_mk (show daldA nS sO.1 71 1 = some 79 from rfl), ob_mk (show daldG tb0 sO.1 79 3 = some 52 from rfl), hb 52 (by decide), show (!false) = true from rfl, cond_true, ob_mk (show dgR nS c_X12 2 sO.1 70 = some 71 from rfl), ob_mk (show daldA nS sO.1 71 1 = some 79 from rfl), ob_mk (show daldG tb0 sO.1 79 3 = some 52 from rfl), dl_2, dl_2, show wsub 3 1 = 2 by decide +kernel, show wadd 3 1 = 4 by decide +kernel]
  cases wle b 52 with
  | true => rw [cond_true]; exact jsO1_3_2_2 hb n
  | false => rw [cond_false]; exact jsO1_4_4_2 hb n
set_option maxRecDepth 100000 in
theorem jsO1_0_4_4 {b : Nat} (hb : ∀ c ∈ [42, 44, 50, 52, 56], weq c b = false) (n : Nat) : lp_X12_index tb0 sO.1 (n + 4) 70 1 b 0 4 = some 4294967295 := by
  rw [show n + 4 = (n + 3) + 1 from rfl, lp_X12_index_s0]
  unfold lb0_X12_index
  rw [show wlt 4 0 = false by decide +kernel, cond_false, dl_2, show wdiv (wadd 0 4) 2 = 2 by decide +kernel, ob_mk (show dgR nS c_X12 2 sO.1 70 = some 71 from rfl), ob_mk (show daldA nS sO.1 71 1 = some 79 from rfl), ob_mk (show daldG tb0 sO.1 79 2 = some 50 from rfl), hb 50 (by decide), show (!false) = true from rfl, cond_true, ob_mk (show dgR nS c_X12 2 sO.1 70 = some 71 from rfl), ob_mk (show daldA nS sO.1 71 1 = some 79 from rfl), ob_mk (show daldG tb0 sO.1 79 2 = some 50 from rfl), dl_2, dl_2, show wsub 2 1 = 1 by decide +kernel, show wadd 2 1 = 3 by decide +kernel]
  cases wle b 50 with
  | true => rw [cond_true]; exact jsO1_0_1_3 hb n
  | false => rw [cond_false]; exact jsO1_3_4_3 hb n
set_option maxRecDepth 100000 in
theorem index_no_sO1 {b : Nat} (hb : ∀ c ∈ [42, 44, 50, 52, 56], weq c b = false) : f_X12_index tb0 sO.1 70 1 b = some 4294967295 := by
  unfold f_X12_index
  rw [ob_mk (show dgR nS c_X12 2 sO.1 70 = some 71 from rfl), ob_mk (show daldA nS sO.1 71 1 = some 79 from rfl), ob_mk (show dalenG tb0 sO.1 79 = some 5 from rfl), dl_2, show wsub 5 1 = 4 by decide +kernel, show dF = 99996 + 4 from rfl]
  exact jsO1_0_4_4 hb 99996
set_option maxRecDepth 100000 in
theorem k2_m_0 {b : Nat} (hb : ∀ c ∈ [123, 132, 213, 231, 312, 321], weq c b = false) (n : Nat) : lp_X4_rankOf tb0 sI.1 (n + 1) b 31 4294967295 0 = some 4294967295 := by
  rw [show n + 1 = (n + 0) + 1 from rfl, lp_X4_rankOf_s0]
  unfold lb0_X4_rankOf
  rw [show wle 0 0 = true by decide +kernel, cond_true, show wlt 4294967295 0 = true by decide +kernel, cond_true]
set_option maxRecDepth 100000 in
theorem k2_0_0 {b : Nat} (hb : ∀ c ∈ [123, 132, 213, 231, 312, 321], weq c b = false) (n : Nat) : lp_X4_rankOf tb0 sI.1 (n + 1) b 31 0 0 = some 4294967295 := by
  rw [show n + 1 = (n + 0) + 1 from rfl, lp_X4_rankOf_s0]
  unfold lb0_X4_rankOf
  rw [show wle 0 0 = true by decide +kernel, cond_true, show wlt 0 0 = false by decide +kernel, cond_false, ob_mk (show f_X5_at tb0 sI.1 31 0 = some 123 from rfl), hb 123 (by decide)]
  rfl
set_option maxRecDepth 100000 in
theorem k2_m_1 {b : Nat} (hb : ∀ c ∈ [123, 132, 213, 231, 312, 321], weq c b = false) (n : Nat) : lp_X4_rankOf tb0 sI.1 (n + 2) b 31 4294967295 1 = some 4294967295 := by
  rw [show n + 2 = (n + 1) + 1 from rfl, lp_X4_rankOf_s0]
  unfold lb0_X4_rankOf
  rw [show wle 1 0 = false by decide +kernel, cond_false, ob_mk (show dalenG tb0 sI.1 31 = some 6 from rfl), show wadd 4294967295 1 = 0 by decide +kernel, show wle 6 0 = false by decide +kernel, cond_false, ob_mk (show f_X5_at tb0 sI.1 31 0 = some 123 from rfl), dl_2, dl_2, dl_2, show wdiv 1 2 = 0 by decide +kernel]
  cases wlt b 123 with
  | true => rw [cond_true]; exact k2_m_0 hb n
  | false => rw [cond_false]; exact k2_0_0 hb n
set_option maxRecDepth 100000 in
theorem k2_1_0 {b : Nat} (hb : ∀ c ∈ [123, 132, 213, 231, 312, 321], weq c b = false) (n : Nat) : lp_X4_rankOf tb0 sI.1 (n + 1) b 31 1 0 = some 4294967295 := by
  rw [show n + 1 = (n + 0) + 1 from rfl, lp_X4_rankOf_s0]
  unfold lb0_X4_rankOf
  rw [show wle 0 0 = true by decide +kernel, cond_true, show wlt 1 0 = false by decide +kernel, cond_false, ob_mk (show f_X5_at tb0 sI.1 31 1 = some 132 from rfl), hb 132 (by decide)]
  rfl
set_option maxRecDepth 100000 in
theorem k2_2_0 {b : Nat} (hb : ∀ c ∈ [123, 132, 213, 231, 312, 321], weq c b = false) (n : Nat) : lp_X4_rankOf tb0 sI.1 (n + 1) b 31 2 0 = some 4294967295 := by
  rw [show n + 1 = (n + 0) + 1 from rfl, lp_X4_rankOf_s0]
  unfold lb0_X4_rankOf
  rw [show wle 0 0 = true by decide +kernel, cond_true, show wlt 2 0 = false by decide +kernel, cond_false, ob_mk (show f_X5_at tb0 sI.1 31 2 = some 213 from rfl), hb 213 (by decide)]
  rfl
set_option maxRecDepth 100000 in
theorem k2_1_1 {b : Nat} (hb : ∀ c ∈ [123, 132, 213, 231, 312, 321], weq c b = false) (n : Nat) : lp_X4_rankOf tb0 sI.1 (n + 2) b 31 1 1 = some 4294967295 := by
  rw [show n + 2 = (n + 1) + 1 from rfl, lp_X4_rankOf_s0]
  unfold lb0_X4_rankOf
  rw [show wle 1 0 = false by decide +kernel, cond_false, ob_mk (show dalenG tb0 sI.1 31 = some 6 from rfl), show wadd 1 1 = 2 by decide +kernel, show wle 6 2 = false by decide +kernel, cond_false, ob_mk (show f_X5_at tb0 sI.1 31 2 = some 213 from rfl), dl_2, dl_2, dl_2, show wdiv 1 2 = 0 by decide +kernel]
  cases wlt b 213 with
  | true => rw [cond_true]; exact k2_1_0 hb n
  | false => rw [cond_false]; exact k2_2_0 hb n
set_option maxRecDepth 100000 in
theorem k2_m_2 {b : Nat} (hb : ∀ c ∈ [123, 132, 213, 231, 312, 321], weq c b = false) (n : Nat) : lp_X4_rankOf tb0 sI.1 (n + 3) b 31 4294967295 2 = some 4294967295 := by
  rw [show n + 3 = (n + 2) + 1 from rfl, lp_X4_rankOf_s0]
  unfold lb0_X4_rankOf
  rw [show wle 2 0 = false by decide +kernel, cond_false, ob_mk (show dalenG tb0 sI.1 31 = some 6 from rfl), show wadd 4294967295 2 = 1 by decide +kernel, show wle 6 1 = false by decide +kernel, cond_false, ob_mk (show f_X5_at tb0 sI.1 31 1 = some 132 from rfl), dl_2, dl_2, dl_2, show wdiv 2 2 = 1 by decide +kernel]
  cases wlt b 132 with
  | true => rw [cond_true]; exact k2_m_1 hb n
  | false => rw [cond_false]; exact k2_1_1 hb n
set_option maxRecDepth 100000 in
theorem k2_3_0 {b : Nat} (hb : ∀ c ∈ [123, 132, 213, 231, 312, 321], weq c b = false) (n : Nat) : lp_X4_rankOf tb0 sI.1 (n + 1) b 31 3 0 = some 4294967295 := by
  rw [show n + 1 = (n + 0) + 1 from rfl, lp_X4_rankOf_s0]
  unfold lb0_X4_rankOf
  rw [show wle 0 0 = true by decide +kernel, cond_true, show wlt 3 0 = false by decide +kernel, cond_false, ob_mk (show f_X5_at tb0 sI.1 31 3 = some 231 from rfl), hb 231 (by decide)]
  rfl
set_option maxRecDepth 100000 in
theorem k2_4_0 {b : Nat} (hb : ∀ c ∈ [123, 132, 213, 231, 312, 321], weq c b = false) (n : Nat) : lp_X4_rankOf tb0 sI.1 (n + 1) b 31 4 0 = some 4294967295 := by
  rw [show n + 1 = (n + 0) + 1 from rfl, lp_X4_rankOf_s0]
  unfold lb0_X4_rankOf
  rw [show wle 0 0 = true by decide +kernel, cond_true, show wlt 4 0 = false by decide +kernel, cond_false, ob_mk (show f_X5_at tb0 sI.1 31 4 = some 312 from rfl), hb 312 (by decide)]
  rfl
set_option maxRecDepth 100000 in
theorem k2_3_1 {b : Nat} (hb : ∀ c ∈ [123, 132, 213, 231, 312, 321], weq c b = false) (n : Nat) : lp_X4_rankOf tb0 sI.1 (n + 2) b 31 3 1 = some 4294967295 := by
  rw [show n + 2 = (n + 1) + 1 from rfl, lp_X4_rankOf_s0]
  unfold lb0_X4_rankOf
  rw [show wle 1 0 = false by decide +kernel, cond_false, ob_mk (show dalenG tb0 sI.1 31 = some 6 from rfl), show wadd 3 1 = 4 by decide +kernel, show wle 6 4 = false by decide +kernel, cond_false, ob_mk (show f_X5_at tb0 sI.1 31 4 = some 312 from rfl), dl_2, dl_2, dl_2, show wdiv 1 2 = 0 by decide +kernel]
  cases wlt b 312 with
  | true => rw [cond_true]; exact k2_3_0 hb n
  | false => rw [cond_false]; exact k2_4_0 hb n
set_option maxRecDepth 100000 in
theorem k2_5_0 {b : Nat} (hb : ∀ c ∈ [123, 132, 213, 231, 312, 321], weq c b = false) (n : Nat) : lp_X4_rankOf tb0 sI.1 (n + 1) b 31 5 0 = some 4294967295 := by
  rw [show n + 1 = (n + 0) + 1 from rfl, lp_X4_rankOf_s0]
  unfold lb0_X4_rankOf
  rw [show wle 0 0 = true by decide +kernel, cond_true, show wlt 5 0 = false by decide +kernel, cond_false, ob_mk (show f_X5_at tb0 sI.1 31 5 = some 321 from rfl), hb 321 (by decide)]
  rfl
set_option maxRecDepth 100000 in
theorem k2_5_1 {b : Nat} (hb : ∀ c ∈ [123, 132, 213, 231, 312, 321], weq c b = false) (n : Nat) : lp_X4_rankOf tb0 sI.1 (n + 2) b 31 5 1 = some 4294967295 := by
  rw [show n + 2 = (n + 1) + 1 from rfl, lp_X4_rankOf_s0]
  unfold lb0_X4_rankOf
  rw [show wle 1 0 = false by decide +kernel, cond_false, ob_mk (show dalenG tb0 sI.1 31 = some 6 from rfl), show wadd 5 1 = 6 by decide +kernel, show wle 6 6 = true by decide +kernel, cond_true, dl_2, show wdiv 1 2 = 0 by decide +kernel]
  exact k2_5_0 hb n
set_option maxRecDepth 100000 in
theorem k2_3_2 {b : Nat} (hb : ∀ c ∈ [123, 132, 213, 231, 312, 321], weq c b = false) (n : Nat) : lp_X4_rankOf tb0 sI.1 (n + 3) b 31 3 2 = some 4294967295 := by
  rw [show n + 3 = (n + 2) + 1 from rfl, lp_X4_rankOf_s0]
  unfold lb0_X4_rankOf
  rw [show wle 2 0 = false by decide +kernel, cond_false, ob_mk (show dalenG tb0 sI.1 31 = some 6 from rfl), show wadd 3 2 = 5 by decide +kernel, show wle 6 5 = false by decide +kernel, cond_false, ob_mk (show f_X5_at tb0 sI.1 31 5 = some 321 from rfl), dl_2, dl_2, dl_2, show wdiv 2 2 = 1 by decide +kernel]
  cases wlt b 321 with
  | true => rw [cond_true]; exact k2_3_1 hb n
  | false => rw [cond_false]; exact k2_5_1 hb n
set_option maxRecDepth 100000 in
theorem k2_m_4 {b : Nat} (hb : ∀ c ∈ [123, 132, 213, 231, 312, 321], weq c b = false) (n : Nat) : lp_X4_rankOf tb0 sI.1 (n + 4) b 31 4294967295 4 = some 4294967295 := by
  rw [show n + 4 = (n + 3) + 1 from rfl, lp_X4_rankOf_s0]
  unfold lb0_X4_rankOf
  rw [show wle 4 0 = false by decide +kernel, cond_false, ob_mk (show dalenG tb0 sI.1 31 = some 6 from rfl), show wadd 4294967295 4 = 3 by decide +kernel, show wle 6 3 = false by decide +kernel, cond_false, ob_mk (show f_X5_at tb0 sI.1 31 3 = some 231 from rfl), dl_2, dl_2, dl_2, show wdiv 4 2 = 2 by decide +kernel]
  cases wlt b 231 with
  | true => rw [cond_true]; exact k2_m_2 hb n
  | false => rw [cond_false]; exact k2_3_2 hb n
set_option maxRecDepth 100000 in
theorem k2_m_8 {b : Nat} (hb : ∀ c ∈ [123, 132, 213, 231, 312, 321], weq c b = false) (n : Nat) : lp_X4_rankOf tb0 sI.1 (n + 5) b 31 4294967295 8 = some 4294967295 := by
  rw [show n + 5 = (n + 4) + 1 from rfl, lp_X4_rankOf_s0]
  unfold lb0_X4_rankOf
  rw [show wle 8 0 = false by decide +kernel, cond_false, ob_mk (show dalenG tb0 sI.1 31 = some 6 from rfl), show wadd 4294967295 8 = 7 by decide +kernel, show wle 6 7 = true by decide +kernel, cond_true, dl_2, show wdiv 8 2 = 4 by decide +kernel]
  exact k2_m_4 hb n
set_option maxRecDepth 100000 in
theorem k2_m_16 {b : Nat} (hb : ∀ c ∈ [123, 132, 213, 231, 312, 321], weq c b = false) (n : Nat) : lp_X4_rankOf tb0 sI.1 (n + 6) b 31 4294967295 16 = some 4294967295 := by
  rw [show n + 6 = (n + 5) + 1 from rfl, lp_X4_rankOf_s0]
  unfold lb0_X4_rankOf
  rw [show wle 16 0 = false by decide +kernel, cond_false, ob_mk (show dalenG tb0 sI.1 31 = some 6 from rfl), show wadd 4294967295 16 = 15 by decide +kernel, show wle 6 15 = true by decide +kernel, cond_true, dl_2, show wdiv 16 2 = 8 by decide +kernel]
  exact k2_m_8 hb n
set_option maxRecDepth 100000 in
theorem k2_m_32 {b : Nat} (hb : ∀ c ∈ [123, 132, 213, 231, 312, 321], weq c b = false) (n : Nat) : lp_X4_rankOf tb0 sI.1 (n + 7) b 31 4294967295 32 = some 4294967295 := by
  rw [show n + 7 = (n + 6) + 1 from rfl, lp_X4_rankOf_s0]
  unfold lb0_X4_rankOf
  rw [show wle 32 0 = false by decide +kernel, cond_false, ob_mk (show dalenG tb0 sI.1 31 = some 6 from rfl), show wadd 4294967295 32 = 31 by decide +kernel, show wle 6 31 = true by decide +kernel, cond_true, dl_2, show wdiv 32 2 = 16 by decide +kernel]
  exact k2_m_16 hb n
set_option maxRecDepth 100000 in
theorem k2_m_64 {b : Nat} (hb : ∀ c ∈ [123, 132, 213, 231, 312, 321], weq c b = false) (n : Nat) : lp_X4_rankOf tb0 sI.1 (n + 8) b 31 4294967295 64 = some 4294967295 := by
  rw [show n + 8 = (n + 7) + 1 from rfl, lp_X4_rankOf_s0]
  unfold lb0_X4_rankOf
  rw [show wle 64 0 = false by decide +kernel, cond_false, ob_mk (show dalenG tb0 sI.1 31 = some 6 from rfl), show wadd 4294967295 64 = 63 by decide +kernel, show wle 6 63 = true by decide +kernel, cond_true, dl_2, show wdiv 64 2 = 32 by decide +kernel]
  exact k2_m_32 hb n
set_option maxRecDepth 100000 in
theorem k2_m_128 {b : Nat} (hb : ∀ c ∈ [123, 132, 213, 231, 312, 321], weq c b = false) (n : Nat) : lp_X4_rankOf tb0 sI.1 (n + 9) b 31 4294967295 128 = some 4294967295 := by
  rw [show n + 9 = (n + 8) + 1 from rfl, lp_X4_rankOf_s0]
  unfold lb0_X4_rankOf
  rw [show wle 128 0 = false by decide +kernel, cond_false, ob_mk (show dalenG tb0 sI.1 31 = some 6 from rfl), show wadd 4294967295 128 = 127 by decide +kernel, show wle 6 127 = true by decide +kernel, cond_true, dl_2, show wdiv 128 2 = 64 by decide +kernel]
  exact k2_m_64 hb n
set_option maxRecDepth 100000 in
theorem k2_m_256 {b : Nat} (hb : ∀ c ∈ [123, 132, 213, 231, 312, 321], weq c b = false) (n : Nat) : lp_X4_rankOf tb0 sI.1 (n + 10) b 31 4294967295 256 = some 4294967295 := by
  rw [show n + 10 = (n + 9) + 1 from rfl, lp_X4_rankOf_s0]
  unfold lb0_X4_rankOf
  rw [show wle 256 0 = false by decide +kernel, cond_false, ob_mk (show dalenG tb0 sI.1 31 = some 6 from rfl), show wadd 4294967295 256 = 255 by decide +kernel, show wle 6 255 = true by decide +kernel, cond_true, dl_2, show wdiv 256 2 = 128 by decide +kernel]
  exact k2_m_128 hb n
set_option maxRecDepth 100000 in
theorem k2_m_512 {b : Nat} (hb : ∀ c ∈ [123, 132, 213, 231, 312, 321], weq c b = false) (n : Nat) : lp_X4_rankOf tb0 sI.1 (n + 11) b 31 4294967295 512 = some 4294967295 := by
  rw [show n + 11 = (n + 10) + 1 from rfl, lp_X4_rankOf_s0]
  unfold lb0_X4_rankOf
  rw [show wle 512 0 = false by decide +kernel, cond_false, ob_mk (show dalenG tb0 sI.1 31 = some 6 from rfl), show wadd 4294967295 512 = 511 by decide +kernel, show wle 6 511 = true by decide +kernel, cond_true, dl_2, show wdiv 512 2 = 256 by decide +kernel]
  exact k2_m_256 hb n
set_option maxRecDepth 100000 in
theorem rankOf_no2 {b : Nat} (hb : ∀ c ∈ [123, 132, 213, 231, 312, 321], weq c b = false) : f_X4_rankOf tb0 sI.1 29 2 b = some 4294967295 := by
  unfold f_X4_rankOf
  rw [ob_mk (show dtag nS c_X4 sI.1 29 = some () from rfl), ob_mk (show f_X4_codes sI.1 29 2 = some 31 from rfl), show dF = 99989 + 11 from rfl]
  exact k2_m_512 hb 99989
set_option maxRecDepth 100000 in
theorem jsTh2_0_m_2 {b : Nat} (hb : ∀ c ∈ [123, 132, 213, 231, 312, 321], weq c b = false) (n : Nat) : lp_X12_index tb0 sTh.1 (n + 2) 70 2 b 0 4294967295 = some 4294967295 := by
  rw [show n + 2 = (n + 1) + 1 from rfl, lp_X12_index_s0]
  unfold lb0_X12_index
  rw [show wlt 4294967295 0 = true by decide +kernel, cond_true]
set_option maxRecDepth 100000 in
theorem jsTh2_1_0_1 {b : Nat} (hb : ∀ c ∈ [123, 132, 213, 231, 312, 321], weq c b = false) (n : Nat) : lp_X12_index tb0 sTh.1 (n + 1) 70 2 b 1 0 = some 4294967295 := by
  rw [show n + 1 = (n + 0) + 1 from rfl, lp_X12_index_s0]
  unfold lb0_X12_index
  rw [show wlt 0 1 = true by decide +kernel, cond_true]
set_option maxRecDepth 100000 in
theorem jsTh2_2_1_1 {b : Nat} (hb : ∀ c ∈ [123, 132, 213, 231, 312, 321], weq c b = false) (n : Nat) : lp_X12_index tb0 sTh.1 (n + 1) 70 2 b 2 1 = some 4294967295 := by
  rw [show n + 1 = (n + 0) + 1 from rfl, lp_X12_index_s0]
  unfold lb0_X12_index
  rw [show wlt 1 2 = true by decide +kernel, cond_true]
set_option maxRecDepth 100000 in
theorem jsTh2_1_1_2 {b : Nat} (hb : ∀ c ∈ [123, 132, 213, 231, 312, 321], weq c b = false) (n : Nat) : lp_X12_index tb0 sTh.1 (n + 2) 70 2 b 1 1 = some 4294967295 := by
  rw [show n + 2 = (n + 1) + 1 from rfl, lp_X12_index_s0]
  unfold lb0_X12_index
  rw [show wlt 1 1 = false by decide +kernel, cond_false, dl_2, show wdiv (wadd 1 1) 2 = 1 by decide +kernel, ob_mk (show dgR nS c_X12 2 sTh.1 70 = some 71 from rfl), ob_mk (show daldA nS sTh.1 71 2 = some 80 from rfl), ob_mk (show daldG tb0 sTh.1 80 1 = some 132 from rfl), hb 132 (by decide), show (!false) = true from rfl, cond_true, ob_mk (show dgR nS c_X12 2 sTh.1 70 = some 71 from rfl), ob_mk (show daldA nS sTh.1 71 2 = some 80 from rfl), ob_mk (show daldG tb0 sTh.1 80 1 = some 132 from rfl), dl_2, dl_2, show wsub 1 1 = 0 by decide +kernel, show wadd 1 1 = 2 by decide +kernel]
  cases wle b 132 with
  | true => rw [cond_true]; exact jsTh2_1_0_1 hb n
  | false => rw [cond_false]; exact jsTh2_2_1_1 hb n
set_option maxRecDepth 100000 in
theorem jsTh2_0_1_3 {b : Nat} (hb : ∀ c ∈ [123, 132, 213, 231, 312, 321], weq c b = false) (n : Nat) : lp_X12_index tb0 sTh.1 (n + 3) 70 2 b 0 1 = some 4294967295 := by
  rw [show n + 3 = (n + 2) + 1 from rfl, lp_X12_index_s0]
  unfold lb0_X12_index
  rw [show wlt 1 0 = false by decide +kernel, cond_false, dl_2, show wdiv (wadd 0 1) 2 = 0 by decide +kernel, ob_mk (show dgR nS c_X12 2 sTh.1 70 = some 71 from rfl), ob_mk (show daldA nS sTh.1 71 2 = some 80 from rfl), ob_mk (show daldG tb0 sTh.1 80 0 = some 123 from rfl), hb 123 (by decide), show (!false) = true from rfl, cond_true, ob_mk (show dgR nS c_X12 2 sTh.1 70 = some 71 from rfl), ob_mk (show daldA nS sTh.1 71 2 = some 80 from rfl), ob_mk (show daldG tb0 sTh.1 80 0 = some 123 from rfl), dl_2, dl_2, show wsub 0 1 = 4294967295 by decide +kernel, show wadd 0 1 = 1 by decide +kernel]
  cases wle b 123 with
  | true => rw [cond_true]; exact jsTh2_0_m_2 hb n
  | false => rw [cond_false]; exact jsTh2_1_1_2 hb n
set_option maxRecDepth 100000 in
theorem jsTh2_3_2_1 {b : Nat} (hb : ∀ c ∈ [123, 132, 213, 231, 312, 321], weq c b = false) (n : Nat) : lp_X12_index tb0 sTh.1 (n + 1) 70 2 b 3 2 = some 4294967295 := by
  rw [show n + 1 = (n + 0) + 1 from rfl, lp_X12_index_s0]
  unfold lb0_X12_index
  rw [show wlt 2 3 = true by decide +kernel, cond_true]
set_option maxRecDepth 100000 in
theorem jsTh2_4_3_1 {b : Nat} (hb : ∀ c ∈ [123, 132, 213, 231, 312, 321], weq c b = false) (n : Nat) : lp_X12_index tb0 sTh.1 (n + 1) 70 2 b 4 3 = some 4294967295 := by
  rw [show n + 1 = (n + 0) + 1 from rfl, lp_X12_index_s0]
  unfold lb0_X12_index
  rw [show wlt 3 4 = true by decide +kernel, cond_true]
set_option maxRecDepth 100000 in
theorem jsTh2_3_3_2 {b : Nat} (hb : ∀ c ∈ [123, 132, 213, 231, 312, 321], weq c b = false) (n : Nat) : lp_X12_index tb0 sTh.1 (n + 2) 70 2 b 3 3 = some 4294967295 := by
  rw [show n + 2 = (n + 1) + 1 from rfl, lp_X12_index_s0]
  unfold lb0_X12_index
  rw [show wlt 3 3 = false by decide +kernel, cond_false, dl_2, show wdiv (wadd 3 3) 2 = 3 by decide +kernel, ob_mk (show dgR nS c_X12 2 sTh.1 70 = some 71 from rfl), ob_mk (show daldA nS sTh.1 71 2 = some 80 from rfl), ob_mk (show daldG tb0 sTh.1 80 3 = some 231 from rfl), hb 231 (by decide), show (!false) = true from rfl, cond_true, ob_mk (show dgR nS c_X12 2 sTh.1 70 = some 71 from rfl), ob_mk (show daldA nS sTh.1 71 2 = some 80 from rfl), ob_mk (show daldG tb0 sTh.1 80 3 = some 231 from rfl), dl_2, dl_2, show wsub 3 1 = 2 by decide +kernel, show wadd 3 1 = 4 by decide +kernel]
  cases wle b 231 with
  | true => rw [cond_true]; exact jsTh2_3_2_1 hb n
  | false => rw [cond_false]; exact jsTh2_4_3_1 hb n
set_option maxRecDepth 100000 in
theorem jsTh2_5_4_1 {b : Nat} (hb : ∀ c ∈ [123, 132, 213, 231, 312, 321], weq c b = false) (n : Nat) : lp_X12_index tb0 sTh.1 (n + 1) 70 2 b 5 4 = some 4294967295 := by
  rw [show n + 1 = (n + 0) + 1 from rfl, lp_X12_index_s0]
  unfold lb0_X12_index
  rw [show wlt 4 5 = true by decide +kernel, cond_true]
set_option maxRecDepth 100000 in
theorem jsTh2_6_5_1 {b : Nat} (hb : ∀ c ∈ [123, 132, 213, 231, 312, 321], weq c b = false) (n : Nat) : lp_X12_index tb0 sTh.1 (n + 1) 70 2 b 6 5 = some 4294967295 := by
  rw [show n + 1 = (n + 0) + 1 from rfl, lp_X12_index_s0]
  unfold lb0_X12_index
  rw [show wlt 5 6 = true by decide +kernel, cond_true]
set_option maxRecDepth 100000 in
theorem jsTh2_5_5_2 {b : Nat} (hb : ∀ c ∈ [123, 132, 213, 231, 312, 321], weq c b = false) (n : Nat) : lp_X12_index tb0 sTh.1 (n + 2) 70 2 b 5 5 = some 4294967295 := by
  rw [show n + 2 = (n + 1) + 1 from rfl, lp_X12_index_s0]
  unfold lb0_X12_index
  rw [show wlt 5 5 = false by decide +kernel, cond_false, dl_2, show wdiv (wadd 5 5) 2 = 5 by decide +kernel, ob_mk (show dgR nS c_X12 2 sTh.1 70 = some 71 from rfl), ob_mk (show daldA nS sTh.1 71 2 = some 80 from rfl), ob_mk (show daldG tb0 sTh.1 80 5 = some 321 from rfl), hb 321 (by decide), show (!false) = true from rfl, cond_true, ob_mk (show dgR nS c_X12 2 sTh.1 70 = some 71 from rfl), ob_mk (show daldA nS sTh.1 71 2 = some 80 from rfl), ob_mk (show daldG tb0 sTh.1 80 5 = some 321 from rfl), dl_2, dl_2, show wsub 5 1 = 4 by decide +kernel, show wadd 5 1 = 6 by decide +kernel]
  cases wle b 321 with
  | true => rw [cond_true]; exact jsTh2_5_4_1 hb n
  | false => rw [cond_false]; exact jsTh2_6_5_1 hb n
set_option maxRecDepth 100000 in
theorem jsTh2_3_5_3 {b : Nat} (hb : ∀ c ∈ [123, 132, 213, 231, 312, 321], weq c b = false) (n : Nat) : lp_X12_index tb0 sTh.1 (n + 3) 70 2 b 3 5 = some 4294967295 := by
  rw [show n + 3 = (n + 2) + 1 from rfl, lp_X12_index_s0]
  unfold lb0_X12_index
  rw [show wlt 5 3 = false by decide +kernel, cond_false, dl_2, show wdiv (wadd 3 5) 2 = 4 by decide +kernel, ob_mk (show dgR nS c_X12 2 sTh.1 70 = some 71 from rfl), ob_mk (show daldA nS sTh.1 71 2 = some 80 from rfl), ob_mk (show daldG tb0 sTh.1 80 4 = some 312 from rfl), hb 312 (by decide), show (!false) = true from rfl, cond_true, ob_mk (show dgR nS c_X12 2 sTh.1 70 = some 71 from rfl), ob_mk (show daldA nS sTh.1 71 2 = some 80 from rfl), ob_mk (show daldG tb0 sTh.1 80 4 = some 312 from rfl), dl_2, dl_2, show wsub 4 1 = 3 by decide +kernel, show wadd 4 1 = 5 by decide +kernel]
  cases wle b 312 with
  | true => rw [cond_true]; exact jsTh2_3_3_2 hb n
  | false => rw [cond_false]; exact jsTh2_5_5_2 hb n
set_option maxRecDepth 100000 in
theorem jsTh2_0_5_4 {b : Nat} (hb : ∀ c ∈ [123, 132, 213, 231, 312, 321], weq c b = false) (n : Nat) : lp_X12_index tb0 sTh.1 (n + 4) 70 2 b 0 5 = some 4294967295 := by
  rw [show n + 4 = (n + 3) + 1 from rfl, lp_X12_index_s0]
  unfold lb0_X12_index
  rw [show wlt 5 0 = false by decide +kernel, cond_false, dl_2, show wdiv (wadd 0 5) 2 = 2 by decide +kernel, ob_mk (show dgR nS c_X12 2 sTh.1 70 = some 71 from rfl), ob_mk (show daldA nS sTh.1 71 2 = some 80 from rfl), ob_mk (show daldG tb0 sTh.1 80 2 = some 213 from rfl), hb 213 (by decide), show (!false) = true from rfl, cond_true, ob_mk (show dgR nS c_X12 2 sTh.1 70 = some 71 from rfl), ob_mk (show daldA nS sTh.1 71 2 = some 80 from rfl), ob_mk (show daldG tb0 sTh.1 80 2 = some 213 from rfl), dl_2, dl_2, show wsub 2 1 = 1 by decide +kernel, show wadd 2 1 = 3 by decide +kernel]
  cases wle b 213 with
  | true => rw [cond_true]; exact jsTh2_0_1_3 hb n
  | false => rw [cond_false]; exact jsTh2_3_5_3 hb n
set_option maxRecDepth 100000 in
theorem index_no_sTh2 {b : Nat} (hb : ∀ c ∈ [123, 132, 213, 231, 312, 321], weq c b = false) : f_X12_index tb0 sTh.1 70 2 b = some 4294967295 := by
  unfold f_X12_index
  rw [ob_mk (show dgR nS c_X12 2 sTh.1 70 = some 71 from rfl), ob_mk (show daldA nS sTh.1 71 2 = some 80 from rfl), ob_mk (show dalenG tb0 sTh.1 80 = some 6 from rfl), dl_2, show wsub 6 1 = 5 by decide +kernel, show dF = 99996 + 4 from rfl]
  exact jsTh2_0_5_4 hb 99996
set_option maxRecDepth 100000 in
theorem jsO2_0_m_2 {b : Nat} (hb : ∀ c ∈ [123, 132, 213, 231, 312, 321], weq c b = false) (n : Nat) : lp_X12_index tb0 sO.1 (n + 2) 70 2 b 0 4294967295 = some 4294967295 := by
  rw [show n + 2 = (n + 1) + 1 from rfl, lp_X12_index_s0]
  unfold lb0_X12_index
  rw [show wlt 4294967295 0 = true by decide +kernel, cond_true]
set_option maxRecDepth 100000 in
theorem jsO2_1_0_1 {b : Nat} (hb : ∀ c ∈ [123, 132, 213, 231, 312, 321], weq c b = false) (n : Nat) : lp_X12_index tb0 sO.1 (n + 1) 70 2 b 1 0 = some 4294967295 := by
  rw [show n + 1 = (n + 0) + 1 from rfl, lp_X12_index_s0]
  unfold lb0_X12_index
  rw [show wlt 0 1 = true by decide +kernel, cond_true]
set_option maxRecDepth 100000 in
theorem jsO2_2_1_1 {b : Nat} (hb : ∀ c ∈ [123, 132, 213, 231, 312, 321], weq c b = false) (n : Nat) : lp_X12_index tb0 sO.1 (n + 1) 70 2 b 2 1 = some 4294967295 := by
  rw [show n + 1 = (n + 0) + 1 from rfl, lp_X12_index_s0]
  unfold lb0_X12_index
  rw [show wlt 1 2 = true by decide +kernel, cond_true]
set_option maxRecDepth 100000 in
theorem jsO2_1_1_2 {b : Nat} (hb : ∀ c ∈ [123, 132, 213, 231, 312, 321], weq c b = false) (n : Nat) : lp_X12_index tb0 sO.1 (n + 2) 70 2 b 1 1 = some 4294967295 := by
  rw [show n + 2 = (n + 1) + 1 from rfl, lp_X12_index_s0]
  unfold lb0_X12_index
  rw [show wlt 1 1 = false by decide +kernel, cond_false, dl_2, show wdiv (wadd 1 1) 2 = 1 by decide +kernel, ob_mk (show dgR nS c_X12 2 sO.1 70 = some 71 from rfl), ob_mk (show daldA nS sO.1 71 2 = some 80 from rfl), ob_mk (show daldG tb0 sO.1 80 1 = some 132 from rfl), hb 132 (by decide), show (!false) = true from rfl, cond_true, ob_mk (show dgR nS c_X12 2 sO.1 70 = some 71 from rfl), ob_mk (show daldA nS sO.1 71 2 = some 80 from rfl), ob_mk (show daldG tb0 sO.1 80 1 = some 132 from rfl), dl_2, dl_2, show wsub 1 1 = 0 by decide +kernel, show wadd 1 1 = 2 by decide +kernel]
  cases wle b 132 with
  | true => rw [cond_true]; exact jsO2_1_0_1 hb n
  | false => rw [cond_false]; exact jsO2_2_1_1 hb n
set_option maxRecDepth 100000 in
theorem jsO2_0_1_3 {b : Nat} (hb : ∀ c ∈ [123, 132, 213, 231, 312, 321], weq c b = false) (n : Nat) : lp_X12_index tb0 sO.1 (n + 3) 70 2 b 0 1 = some 4294967295 := by
  rw [show n + 3 = (n + 2) + 1 from rfl, lp_X12_index_s0]
  unfold lb0_X12_index
  rw [show wlt 1 0 = false by decide +kernel, cond_false, dl_2, show wdiv (wadd 0 1) 2 = 0 by decide +kernel, ob_mk (show dgR nS c_X12 2 sO.1 70 = some 71 from rfl), ob_mk (show daldA nS sO.1 71 2 = some 80 from rfl), ob_mk (show daldG tb0 sO.1 80 0 = some 123 from rfl), hb 123 (by decide), show (!false) = true from rfl, cond_true, ob_mk (show dgR nS c_X12 2 sO.1 70 = some 71 from rfl), ob_mk (show daldA nS sO.1 71 2 = some 80 from rfl), ob_mk (show daldG tb0 sO.1 80 0 = some 123 from rfl), dl_2, dl_2, show wsub 0 1 = 4294967295 by decide +kernel, show wadd 0 1 = 1 by decide +kernel]
  cases wle b 123 with
  | true => rw [cond_true]; exact jsO2_0_m_2 hb n
  | false => rw [cond_false]; exact jsO2_1_1_2 hb n
set_option maxRecDepth 100000 in
theorem jsO2_3_2_1 {b : Nat} (hb : ∀ c ∈ [123, 132, 213, 231, 312, 321], weq c b = false) (n : Nat) : lp_X12_index tb0 sO.1 (n + 1) 70 2 b 3 2 = some 4294967295 := by
  rw [show n + 1 = (n + 0) + 1 from rfl, lp_X12_index_s0]
  unfold lb0_X12_index
  rw [show wlt 2 3 = true by decide +kernel, cond_true]
set_option maxRecDepth 100000 in
theorem jsO2_4_3_1 {b : Nat} (hb : ∀ c ∈ [123, 132, 213, 231, 312, 321], weq c b = false) (n : Nat) : lp_X12_index tb0 sO.1 (n + 1) 70 2 b 4 3 = some 4294967295 := by
  rw [show n + 1 = (n + 0) + 1 from rfl, lp_X12_index_s0]
  unfold lb0_X12_index
  rw [show wlt 3 4 = true by decide +kernel, cond_true]
set_option maxRecDepth 100000 in
theorem jsO2_3_3_2 {b : Nat} (hb : ∀ c ∈ [123, 132, 213, 231, 312, 321], weq c b = false) (n : Nat) : lp_X12_index tb0 sO.1 (n + 2) 70 2 b 3 3 = some 4294967295 := by
  rw [show n + 2 = (n + 1) + 1 from rfl, lp_X12_index_s0]
  unfold lb0_X12_index
  rw [show wlt 3 3 = false by decide +kernel, cond_false, dl_2, show wdiv (wadd 3 3) 2 = 3 by decide +kernel, ob_mk (show dgR nS c_X12 2 sO.1 70 = some 71 from rfl), ob_mk (show daldA nS sO.1 71 2 = some 80 from rfl), ob_mk (show daldG tb0 sO.1 80 3 = some 231 from rfl), hb 231 (by decide), show (!false) = true from rfl, cond_true, ob_mk (show dgR nS c_X12 2 sO.1 70 = some 71 from rfl), ob_mk (show daldA nS sO.1 71 2 = some 80 from rfl), ob_mk (show daldG tb0 sO.1 80 3 = some 231 from rfl), dl_2, dl_2, show wsub 3 1 = 2 by decide +kernel, show wadd 3 1 = 4 by decide +kernel]
  cases wle b 231 with
  | true => rw [cond_true]; exact jsO2_3_2_1 hb n
  | false => rw [cond_false]; exact jsO2_4_3_1 hb n
set_option maxRecDepth 100000 in
theorem jsO2_5_4_1 {b : Nat} (hb : ∀ c ∈ [123, 132, 213, 231, 312, 321], weq c b = false) (n : Nat) : lp_X12_index tb0 sO.1 (n + 1) 70 2 b 5 4 = some 4294967295 := by
  rw [show n + 1 = (n + 0) + 1 from rfl, lp_X12_index_s0]
  unfold lb0_X12_index
  rw [show wlt 4 5 = true by decide +kernel, cond_true]
set_option maxRecDepth 100000 in
theorem jsO2_6_5_1 {b : Nat} (hb : ∀ c ∈ [123, 132, 213, 231, 312, 321], weq c b = false) (n : Nat) : lp_X12_index tb0 sO.1 (n + 1) 70 2 b 6 5 = some 4294967295 := by
  rw [show n + 1 = (n + 0) + 1 from rfl, lp_X12_index_s0]
  unfold lb0_X12_index
  rw [show wlt 5 6 = true by decide +kernel, cond_true]
set_option maxRecDepth 100000 in
theorem jsO2_5_5_2 {b : Nat} (hb : ∀ c ∈ [123, 132, 213, 231, 312, 321], weq c b = false) (n : Nat) : lp_X12_index tb0 sO.1 (n + 2) 70 2 b 5 5 = some 4294967295 := by
  rw [show n + 2 = (n + 1) + 1 from rfl, lp_X12_index_s0]
  unfold lb0_X12_index
  rw [show wlt 5 5 = false by decide +kernel, cond_false, dl_2, show wdiv (wadd 5 5) 2 = 5 by decide +kernel, ob_mk (show dgR nS c_X12 2 sO.1 70 = some 71 from rfl), ob_mk (show daldA nS sO.1 71 2 = some 80 from rfl), ob_mk (show daldG tb0 sO.1 80 5 = some 321 from rfl), hb 321 (by decide), show (!false) = true from rfl, cond_true, ob_mk (show dgR nS c_X12 2 sO.1 70 = some 71 from rfl), ob_mk (show daldA nS sO.1 71 2 = some 80 from rfl), ob_mk (show daldG tb0 sO.1 80 5 = some 321 from rfl), dl_2, dl_2, show wsub 5 1 = 4 by decide +kernel, show wadd 5 1 = 6 by decide +kernel]
  cases wle b 321 with
  | true => rw [cond_true]; exact jsO2_5_4_1 hb n
  | false => rw [cond_false]; exact jsO2_6_5_1 hb n
set_option maxRecDepth 100000 in
theorem jsO2_3_5_3 {b : Nat} (hb : ∀ c ∈ [123, 132, 213, 231, 312, 321], weq c b = false) (n : Nat) : lp_X12_index tb0 sO.1 (n + 3) 70 2 b 3 5 = some 4294967295 := by
  rw [show n + 3 = (n + 2) + 1 from rfl, lp_X12_index_s0]
  unfold lb0_X12_index
  rw [show wlt 5 3 = false by decide +kernel, cond_false, dl_2, show wdiv (wadd 3 5) 2 = 4 by decide +kernel, ob_mk (show dgR nS c_X12 2 sO.1 70 = some 71 from rfl), ob_mk (show daldA nS sO.1 71 2 = some 80 from rfl), ob_mk (show daldG tb0 sO.1 80 4 = some 312 from rfl), hb 312 (by decide), show (!false) = true from rfl, cond_true, ob_mk (show dgR nS c_X12 2 sO.1 70 = some 71 from rfl), ob_mk (show daldA nS sO.1 71 2 = some 80 from rfl), ob_mk (show daldG tb0 sO.1 80 4 = some 312 from rfl), dl_2, dl_2, show wsub 4 1 = 3 by decide +kernel, show wadd 4 1 = 5 by decide +kernel]
  cases wle b 312 with
  | true => rw [cond_true]; exact jsO2_3_3_2 hb n
  | false => rw [cond_false]; exact jsO2_5_5_2 hb n
set_option maxRecDepth 100000 in
theorem jsO2_0_5_4 {b : Nat} (hb : ∀ c ∈ [123, 132, 213, 231, 312, 321], weq c b = false) (n : Nat) : lp_X12_index tb0 sO.1 (n + 4) 70 2 b 0 5 = some 4294967295 := by
  rw [show n + 4 = (n + 3) + 1 from rfl, lp_X12_index_s0]
  unfold lb0_X12_index
  rw [show wlt 5 0 = false by decide +kernel, cond_false, dl_2, show wdiv (wadd 0 5) 2 = 2 by decide +kernel, ob_mk (show dgR nS c_X12 2 sO.1 70 = some 71 from rfl), ob_mk (show daldA nS sO.1 71 2 = some 80 from rfl), ob_mk (show daldG tb0 sO.1 80 2 = some 213 from rfl), hb 213 (by decide), show (!false) = true from rfl, cond_true, ob_mk (show dgR nS c_X12 2 sO.1 70 = some 71 from rfl), ob_mk (show daldA nS sO.1 71 2 = some 80 from rfl), ob_mk (show daldG tb0 sO.1 80 2 = some 213 from rfl), dl_2, dl_2, show wsub 2 1 = 1 by decide +kernel, show wadd 2 1 = 3 by decide +kernel]
  cases wle b 213 with
  | true => rw [cond_true]; exact jsO2_0_1_3 hb n
  | false => rw [cond_false]; exact jsO2_3_5_3 hb n
set_option maxRecDepth 100000 in
theorem index_no_sO2 {b : Nat} (hb : ∀ c ∈ [123, 132, 213, 231, 312, 321], weq c b = false) : f_X12_index tb0 sO.1 70 2 b = some 4294967295 := by
  unfold f_X12_index
  rw [ob_mk (show dgR nS c_X12 2 sO.1 70 = some 71 from rfl), ob_mk (show daldA nS sO.1 71 2 = some 80 from rfl), ob_mk (show dalenG tb0 sO.1 80 = some 6 from rfl), dl_2, show wsub 6 1 = 5 by decide +kernel, show dF = 99996 + 4 from rfl]
  exact jsO2_0_5_4 hb 99996
set_option maxRecDepth 100000 in
theorem C9_0 {b : Nat} (hb : ∀ c ∈ [42, 44, 50, 52, 56], weq c b = false) : f_L_rank tb0 21 0 b 82 sI = some (.inl 0, sO) := by
  unfold f_L_rank f_X9_rank
  rw [show f_X9_needFamily 0 sI = some (.inl (), sI) from rfl, obW_l, ob_mk (show dgR nS c_X9 5 sI.1 21 = some 29 from rfl), ob_mk (show dtag nS c_X4 sI.1 29 = some () from rfl), rankOf_no0 hb, ob_s2]
  rfl
set_option maxRecDepth 100000 in
theorem R9_0 {b : Nat} (hb : ∀ c ∈ [42, 44, 50, 52, 56], weq c b = false) : f_X12_rank tb0 70 0 b sO = some (.inl 4294967295, sO) := by
  unfold f_X12_rank
  rw [ob_mk (show f_X12_isNoFamily 0 = some 0 from rfl), ob_mk (show dtag nS c_X12 sO.1 70 = some () from rfl), start_O, obW_l, show weq 0 0 = true from rfl, cond_true, ob_mk (show dtag nS c_X12 sO.1 70 = some () from rfl), index_no_sO0 hb, ob_s2]
  rfl
set_option maxRecDepth 100000 in
theorem v9_0 {b : Nat} (hb : ∀ c ∈ [42, 44, 50, 52, 56], weq c b = false) (c d : Nat) : good (op_9 0 b c d sI) = true := by
  unfold op_9
  rw [C9_0 hb, obW_l, ob_mk (show dtag nS c_X12 sO.1 70 = some () from rfl), R9_0 hb, obW_l]
  rfl
set_option maxRecDepth 100000 in
theorem C3_0 {b : Nat} (hb : ∀ c ∈ [42, 44, 50, 52, 56], weq c b = false) : f_L_walker tb0 21 0 b 82 sI = some (.inl 2, sTh) := by
  unfold f_L_walker f_X9_walker
  rw [show f_X9_needFamily 0 sI = some (.inl (), sI) from rfl, obW_l, ob_mk (show dgR nS c_X9 5 sI.1 21 = some 29 from rfl), ob_mk (show dtag nS c_X4 sI.1 29 = some () from rfl), rankOf_no0 hb, ob_s2]
  rfl
set_option maxRecDepth 100000 in
theorem R3_0 {b : Nat} (hb : ∀ c ∈ [42, 44, 50, 52, 56], weq c b = false) : okR 2 (f_X12_walker tb0 70 0 b sTh) = true := by
  unfold f_X12_walker
  rw [ob_mk (show f_X12_isNoFamily 0 = some 0 from rfl), ob_mk (show dtag nS c_X12 sTh.1 70 = some () from rfl), start_T, obW_l, show (!weq 0 0) = false from rfl, cond_false, ob_mk (show dtag nS c_X12 sTh.1 70 = some () from rfl), index_no_sTh0 hb, ob_s2]
  rfl
set_option maxRecDepth 100000 in
theorem v3_0 {b : Nat} (hb : ∀ c ∈ [42, 44, 50, 52, 56], weq c b = false) (c d : Nat) : good (op_3 0 b c d sI) = true := by
  obtain ⟨s', h1, h2, h3, h4⟩ := okR_spec (R3_0 hb)
  unfold op_3
  rw [C3_0 hb, obW_l, ob_mk (show dtag nS c_X12 sTh.1 70 = some () from rfl), h1, obW_l, ob_mk h3, ob_mk h2, show weq 2 2 = true from rfl, cond_true, show (!weq 2 0) = true from rfl, cond_true]
  exact good_1 h4
set_option maxRecDepth 100000 in
theorem C9_1 {b : Nat} (hb : ∀ c ∈ [42, 44, 50, 52, 56], weq c b = false) : f_L_rank tb0 21 1 b 82 sI = some (.inl 0, sO) := by
  unfold f_L_rank f_X9_rank
  rw [show f_X9_needFamily 1 sI = some (.inl (), sI) from rfl, obW_l, ob_mk (show dgR nS c_X9 5 sI.1 21 = some 29 from rfl), ob_mk (show dtag nS c_X4 sI.1 29 = some () from rfl), rankOf_no1 hb, ob_s2]
  rfl
set_option maxRecDepth 100000 in
theorem R9_1 {b : Nat} (hb : ∀ c ∈ [42, 44, 50, 52, 56], weq c b = false) : f_X12_rank tb0 70 1 b sO = some (.inl 4294967295, sO) := by
  unfold f_X12_rank
  rw [ob_mk (show f_X12_isNoFamily 1 = some 0 from rfl), ob_mk (show dtag nS c_X12 sO.1 70 = some () from rfl), start_O, obW_l, show weq 0 0 = true from rfl, cond_true, ob_mk (show dtag nS c_X12 sO.1 70 = some () from rfl), index_no_sO1 hb, ob_s2]
  rfl
set_option maxRecDepth 100000 in
theorem v9_1 {b : Nat} (hb : ∀ c ∈ [42, 44, 50, 52, 56], weq c b = false) (c d : Nat) : good (op_9 1 b c d sI) = true := by
  unfold op_9
  rw [C9_1 hb, obW_l, ob_mk (show dtag nS c_X12 sO.1 70 = some () from rfl), R9_1 hb, obW_l]
  rfl
set_option maxRecDepth 100000 in
theorem C3_1 {b : Nat} (hb : ∀ c ∈ [42, 44, 50, 52, 56], weq c b = false) : f_L_walker tb0 21 1 b 82 sI = some (.inl 2, sTh) := by
  unfold f_L_walker f_X9_walker
  rw [show f_X9_needFamily 1 sI = some (.inl (), sI) from rfl, obW_l, ob_mk (show dgR nS c_X9 5 sI.1 21 = some 29 from rfl), ob_mk (show dtag nS c_X4 sI.1 29 = some () from rfl), rankOf_no1 hb, ob_s2]
  rfl
set_option maxRecDepth 100000 in
theorem R3_1 {b : Nat} (hb : ∀ c ∈ [42, 44, 50, 52, 56], weq c b = false) : okR 2 (f_X12_walker tb0 70 1 b sTh) = true := by
  unfold f_X12_walker
  rw [ob_mk (show f_X12_isNoFamily 1 = some 0 from rfl), ob_mk (show dtag nS c_X12 sTh.1 70 = some () from rfl), start_T, obW_l, show (!weq 0 0) = false from rfl, cond_false, ob_mk (show dtag nS c_X12 sTh.1 70 = some () from rfl), index_no_sTh1 hb, ob_s2]
  rfl
set_option maxRecDepth 100000 in
theorem v3_1 {b : Nat} (hb : ∀ c ∈ [42, 44, 50, 52, 56], weq c b = false) (c d : Nat) : good (op_3 1 b c d sI) = true := by
  obtain ⟨s', h1, h2, h3, h4⟩ := okR_spec (R3_1 hb)
  unfold op_3
  rw [C3_1 hb, obW_l, ob_mk (show dtag nS c_X12 sTh.1 70 = some () from rfl), h1, obW_l, ob_mk h3, ob_mk h2, show weq 2 2 = true from rfl, cond_true, show (!weq 2 0) = true from rfl, cond_true]
  exact good_1 h4
set_option maxRecDepth 100000 in
theorem C9_2 {b : Nat} (hb : ∀ c ∈ [123, 132, 213, 231, 312, 321], weq c b = false) : f_L_rank tb0 21 2 b 82 sI = some (.inl 0, sO) := by
  unfold f_L_rank f_X9_rank
  rw [show f_X9_needFamily 2 sI = some (.inl (), sI) from rfl, obW_l, ob_mk (show dgR nS c_X9 5 sI.1 21 = some 29 from rfl), ob_mk (show dtag nS c_X4 sI.1 29 = some () from rfl), rankOf_no2 hb, ob_s2]
  rfl
set_option maxRecDepth 100000 in
theorem R9_2 {b : Nat} (hb : ∀ c ∈ [123, 132, 213, 231, 312, 321], weq c b = false) : f_X12_rank tb0 70 2 b sO = some (.inl 4294967295, sO) := by
  unfold f_X12_rank
  rw [ob_mk (show f_X12_isNoFamily 2 = some 0 from rfl), ob_mk (show dtag nS c_X12 sO.1 70 = some () from rfl), start_O, obW_l, show weq 0 0 = true from rfl, cond_true, ob_mk (show dtag nS c_X12 sO.1 70 = some () from rfl), index_no_sO2 hb, ob_s2]
  rfl
set_option maxRecDepth 100000 in
theorem v9_2 {b : Nat} (hb : ∀ c ∈ [123, 132, 213, 231, 312, 321], weq c b = false) (c d : Nat) : good (op_9 2 b c d sI) = true := by
  unfold op_9
  rw [C9_2 hb, obW_l, ob_mk (show dtag nS c_X12 sO.1 70 = some () from rfl), R9_2 hb, obW_l]
  rfl
set_option maxRecDepth 100000 in
theorem C3_2 {b : Nat} (hb : ∀ c ∈ [123, 132, 213, 231, 312, 321], weq c b = false) : f_L_walker tb0 21 2 b 82 sI = some (.inl 2, sTh) := by
  unfold f_L_walker f_X9_walker
  rw [show f_X9_needFamily 2 sI = some (.inl (), sI) from rfl, obW_l, ob_mk (show dgR nS c_X9 5 sI.1 21 = some 29 from rfl), ob_mk (show dtag nS c_X4 sI.1 29 = some () from rfl), rankOf_no2 hb, ob_s2]
  rfl
set_option maxRecDepth 100000 in
theorem R3_2 {b : Nat} (hb : ∀ c ∈ [123, 132, 213, 231, 312, 321], weq c b = false) : okR 2 (f_X12_walker tb0 70 2 b sTh) = true := by
  unfold f_X12_walker
  rw [ob_mk (show f_X12_isNoFamily 2 = some 0 from rfl), ob_mk (show dtag nS c_X12 sTh.1 70 = some () from rfl), start_T, obW_l, show (!weq 0 0) = false from rfl, cond_false, ob_mk (show dtag nS c_X12 sTh.1 70 = some () from rfl), index_no_sTh2 hb, ob_s2]
  rfl
set_option maxRecDepth 100000 in
theorem v3_2 {b : Nat} (hb : ∀ c ∈ [123, 132, 213, 231, 312, 321], weq c b = false) (c d : Nat) : good (op_3 2 b c d sI) = true := by
  obtain ⟨s', h1, h2, h3, h4⟩ := okR_spec (R3_2 hb)
  unfold op_3
  rw [C3_2 hb, obW_l, ob_mk (show dtag nS c_X12 sTh.1 70 = some () from rfl), h1, obW_l, ob_mk h3, ob_mk h2, show weq 2 2 = true from rfl, cond_true, show (!weq 2 0) = true from rfl, cond_true]
  exact good_1 h4
