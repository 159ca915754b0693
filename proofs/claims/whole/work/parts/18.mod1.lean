/-! the reference's small methods -/
def inI (v a b : Int32) : Int32 := if v < a then nI 0 else if b < v then nI 0 else nI 1
theorem m95 {σ : Sg} {M : Mem} {v a b : Int32} (Q : Po) : wp 95 0 [some (.int v), some (.int a), some (.int b)] [] σ M Q = Q (some (.int (inI v a b))) σ M := by
  unfold inI
  by_cases h1 : v < a
  · simp only [k95_0, k95_1, k95_2, k95_5, k95_6, k95_7, k95_10, k95_11, k95_14, k95_15, rf_s, pushR_s, pushR_n, le4_0, le4_1, le4_2, le4_3, le4_4, isLong_n, isLong_i, isLong_r, isLong_f, if_true, if_false, not_true_eq_false, not_false_eq_true, isI_0, isI_9, isAr_0, isAr_1, isAr_2, isAr_9, okR_i, okR_0, okR_1, putI_0, putI_b0, putI_b1, nI_10, nI_00, Nat.reduceLT, Nat.reduceLeDiff, nI_add, upM_s, upI_s, pk_mul, nf_at, h1]
  · by_cases h2 : b < v
    · simp only [k95_0, k95_1, k95_2, k95_5, k95_6, k95_7, k95_10, k95_11, k95_14, k95_15, rf_s, pushR_s, pushR_n, le4_0, le4_1, le4_2, le4_3, le4_4, isLong_n, isLong_i, isLong_r, isLong_f, if_true, if_false, not_true_eq_false, not_false_eq_true, isI_0, isI_9, isAr_0, isAr_1, isAr_2, isAr_9, okR_i, okR_0, okR_1, putI_0, putI_b0, putI_b1, nI_10, nI_00, Nat.reduceLT, Nat.reduceLeDiff, nI_add, upM_s, upI_s, pk_mul, nf_at, h1, h2]
    · simp only [k95_0, k95_1, k95_2, k95_5, k95_6, k95_7, k95_10, k95_11, k95_14, k95_15, rf_s, pushR_s, pushR_n, le4_0, le4_1, le4_2, le4_3, le4_4, isLong_n, isLong_i, isLong_r, isLong_f, if_true, if_false, not_true_eq_false, not_false_eq_true, isI_0, isI_9, isAr_0, isAr_1, isAr_2, isAr_9, okR_i, okR_0, okR_1, putI_0, putI_b0, putI_b1, nI_10, nI_00, Nat.reduceLT, Nat.reduceLeDiff, nI_add, upM_s, upI_s, pk_mul, nf_at, h1, h2]
theorem m102 {σ : Sg} {M : Mem} (hm : IsM σ) {k w : Nat} (hk : k < 16) (hw : w < 6) (Q : Po) : wp 102 0 [some (.ref 106), some (.int (nI k)), some (.int (nI w))] [] σ M Q = Q (some (.int (M 107 (30 + 6 * k + w)))) σ M := by
  have e : 30 + 6 * k + w < 146 := by omega
  simp only [k102_0, k102_1, k102_4, k102_6, k102_8, k102_9, k102_10, k102_11, k102_12, k102_13, k102_14, im_t106 hm, im_t107 hm, im_t108 hm, im_t109 hm, im_t110 hm, im_t111 hm, im_t112 hm, im_t113 hm, im_t114 hm, im_t115 hm, im_t116 hm, im_l107 hm, im_l108 hm, im_l109 hm, im_l110 hm, im_l111 hm, im_l112 hm, im_l113 hm, im_l114 hm, im_l115 hm, im_l116 hm, im_r0 hm, im_r1 hm, im_r2 hm, im_r3 hm, im_r5 hm, im_r7 hm, im_r14 hm, im_r15 hm, im_r16 hm, im_r22 hm, rf_s, pushR_s, pushR_n, le4_0, le4_1, le4_2, le4_3, le4_4, isLong_n, isLong_i, isLong_r, isLong_f, if_true, if_false, not_true_eq_false, not_false_eq_true, isI_0, isI_9, isAr_0, isAr_1, isAr_2, isAr_9, okR_i, okR_0, okR_1, putI_0, putI_b0, putI_b1, nI_10, nI_00, Nat.reduceLT, Nat.reduceLeDiff, nI_add, upM_s, upI_s, pk_mul, nf_at, e]
theorem m103 {σ : Sg} {M : Mem} (hm : IsM σ) {k w : Nat} {x : Int32} (hk : k < 16) (hw : w < 6) (Q : Po) : wp 103 0 [some (.ref 106), some (.int (nI k)), some (.int (nI w)), some (.int x)] [] σ M Q = Q none σ (upM M 107 (upI (M 107) (30 + 6 * k + w) x)) := by
  have e : 30 + 6 * k + w < 146 := by omega
  simp only [k103_0, k103_1, k103_4, k103_6, k103_8, k103_9, k103_10, k103_11, k103_12, k103_13, k103_14, k103_15, im_t106 hm, im_t107 hm, im_t108 hm, im_t109 hm, im_t110 hm, im_t111 hm, im_t112 hm, im_t113 hm, im_t114 hm, im_t115 hm, im_t116 hm, im_l107 hm, im_l108 hm, im_l109 hm, im_l110 hm, im_l111 hm, im_l112 hm, im_l113 hm, im_l114 hm, im_l115 hm, im_l116 hm, im_r0 hm, im_r1 hm, im_r2 hm, im_r3 hm, im_r5 hm, im_r7 hm, im_r14 hm, im_r15 hm, im_r16 hm, im_r22 hm, rf_s, pushR_s, pushR_n, le4_0, le4_1, le4_2, le4_3, le4_4, isLong_n, isLong_i, isLong_r, isLong_f, if_true, if_false, not_true_eq_false, not_false_eq_true, isI_0, isI_9, isAr_0, isAr_1, isAr_2, isAr_9, okR_i, okR_0, okR_1, putI_0, putI_b0, putI_b1, nI_10, nI_00, Nat.reduceLT, Nat.reduceLeDiff, nI_add, upM_s, upI_s, pk_mul, nf_at, e]
theorem m104 {σ : Sg} {M : Mem} (hm : IsM σ) {s : Nat → Nat} (hs : M 107 = nf s) {k : Nat} (hk : k < 16) (hc : s (30 + 6 * k + 4) ≤ 1) (Q : Po) : wp 104 0 [some (.ref 106), some (.int (nI k))] [] σ M Q = Q (some (.int (nI (1 - s (30 + 6 * k + 4))))) σ M := by
  rcases (show s (30 + 6 * k + 4) = 0 ∨ s (30 + 6 * k + 4) = 1 by omega) with h | h
  · simp only [k104_0, k104_1, k104_2, k104_3, k104_6, k104_9, k104_10, k104_13, k104_14, im_t106 hm, im_t107 hm, im_t108 hm, im_t109 hm, im_t110 hm, im_t111 hm, im_t112 hm, im_t113 hm, im_t114 hm, im_t115 hm, im_t116 hm, im_l107 hm, im_l108 hm, im_l109 hm, im_l110 hm, im_l111 hm, im_l112 hm, im_l113 hm, im_l114 hm, im_l115 hm, im_l116 hm, im_r0 hm, im_r1 hm, im_r2 hm, im_r3 hm, im_r5 hm, im_r7 hm, im_r14 hm, im_r15 hm, im_r16 hm, im_r22 hm, rf_s, pushR_s, pushR_n, le4_0, le4_1, le4_2, le4_3, le4_4, isLong_n, isLong_i, isLong_r, isLong_f, if_true, if_false, not_true_eq_false, not_false_eq_true, isI_0, isI_9, isAr_0, isAr_1, isAr_2, isAr_9, okR_i, okR_0, okR_1, putI_0, putI_b0, putI_b1, nI_10, nI_00, Nat.reduceLT, Nat.reduceLeDiff, nI_add, upM_s, upI_s, pk_mul, nf_at, m102 hm hk, hs, h]
  · simp only [k104_0, k104_1, k104_2, k104_3, k104_6, k104_9, k104_10, k104_13, k104_14, im_t106 hm, im_t107 hm, im_t108 hm, im_t109 hm, im_t110 hm, im_t111 hm, im_t112 hm, im_t113 hm, im_t114 hm, im_t115 hm, im_t116 hm, im_l107 hm, im_l108 hm, im_l109 hm, im_l110 hm, im_l111 hm, im_l112 hm, im_l113 hm, im_l114 hm, im_l115 hm, im_l116 hm, im_r0 hm, im_r1 hm, im_r2 hm, im_r3 hm, im_r5 hm, im_r7 hm, im_r14 hm, im_r15 hm, im_r16 hm, im_r22 hm, rf_s, pushR_s, pushR_n, le4_0, le4_1, le4_2, le4_3, le4_4, isLong_n, isLong_i, isLong_r, isLong_f, if_true, if_false, not_true_eq_false, not_false_eq_true, isI_0, isI_9, isAr_0, isAr_1, isAr_2, isAr_9, okR_i, okR_0, okR_1, putI_0, putI_b0, putI_b1, nI_10, nI_00, Nat.reduceLT, Nat.reduceLeDiff, nI_add, upM_s, upI_s, pk_mul, nf_at, m102 hm hk, hs, h]
theorem ne_n {a b : Nat} (ha : a < 2 ^ 31) (hb : b < 2 ^ 31) (h : a ≠ b) : ¬ nI a = nI b := fun e => h ((nI_eq ha hb).1 e)
theorem ne_m1 {a : Nat} (ha : a < 2 ^ 31) : ¬ nI a = -1 := by
  intro e
  have h := congrArg Int32.toInt e
  rw [nI_toInt ha] at h
  have h2 : Int32.toInt (-1) = -1 := by decide
  omega
theorem toInt_pred {n : Nat} (h : n < 2 ^ 31) : (nI n - nI 1).toInt = (n : Int) - 1 := by
  cases n with
  | zero => decide
  | succ n => rw [pk_sub (by omega), nI_toInt (by omega)]; omega
theorem inI_y {n p : Nat} (hn : n < 2 ^ 31) (hp : p < n) : inI (nI p) (nI 0) (nI n - nI 1) = nI 1 := by
  unfold inI
  rw [if_neg (nI_nlt (Nat.zero_le _) (by omega)), if_neg]
  intro h
  have h2 := Int32.lt_iff_toInt_lt.1 h
  rw [toInt_pred hn, nI_toInt (by omega)] at h2
  omega
theorem inI_n {n : Nat} {v : Int32} (hn : n < 2 ^ 31) (hv : ¬ ∃ p, p < n ∧ v = nI p) : inI v (nI 0) (nI n - nI 1) = nI 0 := by
  unfold inI
  by_cases h : v < nI 0
  · rw [if_pos h]
  · rw [if_neg h, if_pos]
    rcases pk_ix v hn with h1 | h1 | ⟨j, hj, e⟩
    · exact absurd h1 h
    · apply Int32.lt_iff_toInt_lt.2
      have h2 := Int32.le_iff_toInt_le.1 h1
      rw [nI_toInt hn] at h2
      rw [toInt_pred hn]
      omega
    · exact absurd ⟨j, hj, e⟩ hv
theorem m100y {σ : Sg} {M : Mem} (hm : IsM σ) {s : Nat → Nat} (hs : M 107 = nf s) {p : Nat} (h0 : s 0 < 2 ^ 31) (hp : p < s 0) (Q : Po) : wp 100 0 [some (.ref 106), some (.int (nI p))] [] σ M Q = Q (some (.int (nI 1))) σ M := by
  simp only [k100_0, k100_1, k100_2, k100_3, k100_6, k100_7, k100_8, k100_9, k100_10, k100_13, im_t106 hm, im_t107 hm, im_t108 hm, im_t109 hm, im_t110 hm, im_t111 hm, im_t112 hm, im_t113 hm, im_t114 hm, im_t115 hm, im_t116 hm, im_l107 hm, im_l108 hm, im_l109 hm, im_l110 hm, im_l111 hm, im_l112 hm, im_l113 hm, im_l114 hm, im_l115 hm, im_l116 hm, im_r0 hm, im_r1 hm, im_r2 hm, im_r3 hm, im_r5 hm, im_r7 hm, im_r14 hm, im_r15 hm, im_r16 hm, im_r22 hm, rf_s, pushR_s, pushR_n, le4_0, le4_1, le4_2, le4_3, le4_4, isLong_n, isLong_i, isLong_r, isLong_f, if_true, if_false, not_true_eq_false, not_false_eq_true, isI_0, isI_9, isAr_0, isAr_1, isAr_2, isAr_9, okR_i, okR_0, okR_1, putI_0, putI_b0, putI_b1, nI_10, nI_00, Nat.reduceLT, Nat.reduceLeDiff, nI_add, upM_s, upI_s, pk_mul, nf_at, hs, m95, inI_y h0 hp]
theorem m100n {σ : Sg} {M : Mem} (hm : IsM σ) {s : Nat → Nat} (hs : M 107 = nf s) {v : Int32} (h0 : s 0 < 2 ^ 31) (hp : ¬ ∃ p, p < s 0 ∧ v = nI p) (Q : Po) : wp 100 0 [some (.ref 106), some (.int v)] [] σ M Q = Q (some (.int (nI 0))) σ M := by
  simp only [k100_0, k100_1, k100_2, k100_3, k100_6, k100_7, k100_8, k100_9, k100_10, k100_13, im_t106 hm, im_t107 hm, im_t108 hm, im_t109 hm, im_t110 hm, im_t111 hm, im_t112 hm, im_t113 hm, im_t114 hm, im_t115 hm, im_t116 hm, im_l107 hm, im_l108 hm, im_l109 hm, im_l110 hm, im_l111 hm, im_l112 hm, im_l113 hm, im_l114 hm, im_l115 hm, im_l116 hm, im_r0 hm, im_r1 hm, im_r2 hm, im_r3 hm, im_r5 hm, im_r7 hm, im_r14 hm, im_r15 hm, im_r16 hm, im_r22 hm, rf_s, pushR_s, pushR_n, le4_0, le4_1, le4_2, le4_3, le4_4, isLong_n, isLong_i, isLong_r, isLong_f, if_true, if_false, not_true_eq_false, not_false_eq_true, isI_0, isI_9, isAr_0, isAr_1, isAr_2, isAr_9, okR_i, okR_0, okR_1, putI_0, putI_b0, putI_b1, nI_10, nI_00, Nat.reduceLT, Nat.reduceLeDiff, nI_add, upM_s, upI_s, pk_mul, nf_at, hs, m95, inI_n h0 hp]
theorem m101y {σ : Sg} {M : Mem} (hm : IsM σ) {s : Nat → Nat} (hs : M 107 = nf s) {p : Nat} (h0 : s 1 < 2 ^ 31) (hp : p < s 1) (Q : Po) : wp 101 0 [some (.ref 106), some (.int (nI p))] [] σ M Q = Q (some (.int (nI 1))) σ M := by
  simp only [k101_0, k101_1, k101_2, k101_3, k101_6, k101_7, k101_8, k101_9, k101_10, k101_13, im_t106 hm, im_t107 hm, im_t108 hm, im_t109 hm, im_t110 hm, im_t111 hm, im_t112 hm, im_t113 hm, im_t114 hm, im_t115 hm, im_t116 hm, im_l107 hm, im_l108 hm, im_l109 hm, im_l110 hm, im_l111 hm, im_l112 hm, im_l113 hm, im_l114 hm, im_l115 hm, im_l116 hm, im_r0 hm, im_r1 hm, im_r2 hm, im_r3 hm, im_r5 hm, im_r7 hm, im_r14 hm, im_r15 hm, im_r16 hm, im_r22 hm, rf_s, pushR_s, pushR_n, le4_0, le4_1, le4_2, le4_3, le4_4, isLong_n, isLong_i, isLong_r, isLong_f, if_true, if_false, not_true_eq_false, not_false_eq_true, isI_0, isI_9, isAr_0, isAr_1, isAr_2, isAr_9, okR_i, okR_0, okR_1, putI_0, putI_b0, putI_b1, nI_10, nI_00, Nat.reduceLT, Nat.reduceLeDiff, nI_add, upM_s, upI_s, pk_mul, nf_at, hs, m95, inI_y h0 hp]
theorem m101n {σ : Sg} {M : Mem} (hm : IsM σ) {s : Nat → Nat} (hs : M 107 = nf s) {v : Int32} (h0 : s 1 < 2 ^ 31) (hp : ¬ ∃ p, p < s 1 ∧ v = nI p) (Q : Po) : wp 101 0 [some (.ref 106), some (.int v)] [] σ M Q = Q (some (.int (nI 0))) σ M := by
  simp only [k101_0, k101_1, k101_2, k101_3, k101_6, k101_7, k101_8, k101_9, k101_10, k101_13, im_t106 hm, im_t107 hm, im_t108 hm, im_t109 hm, im_t110 hm, im_t111 hm, im_t112 hm, im_t113 hm, im_t114 hm, im_t115 hm, im_t116 hm, im_l107 hm, im_l108 hm, im_l109 hm, im_l110 hm, im_l111 hm, im_l112 hm, im_l113 hm, im_l114 hm, im_l115 hm, im_l116 hm, im_r0 hm, im_r1 hm, im_r2 hm, im_r3 hm, im_r5 hm, im_r7 hm, im_r14 hm, im_r15 hm, im_r16 hm, im_r22 hm, rf_s, pushR_s, pushR_n, le4_0, le4_1, le4_2, le4_3, le4_4, isLong_n, isLong_i, isLong_r, isLong_f, if_true, if_false, not_true_eq_false, not_false_eq_true, isI_0, isI_9, isAr_0, isAr_1, isAr_2, isAr_9, okR_i, okR_0, okR_1, putI_0, putI_b0, putI_b1, nI_10, nI_00, Nat.reduceLT, Nat.reduceLeDiff, nI_add, upM_s, upI_s, pk_mul, nf_at, hs, m95, inI_n h0 hp]
/-! the pure state -/
def oth (s : Nat → Nat) (k p : Nat) : Nat := if s (30 + 6 * k + 0) = p then s (30 + 6 * k + 1) else if s (30 + 6 * k + 1) = p then s (30 + 6 * k + 0) else 10
def eI (n : Nat) : Int32 := if n = 10 then (-1) else nI n
def acr (s : Nat → Nat) (k p : Nat) : Nat := if s (30 + 6 * k + 4) = 1 then 10 else oth s k p
def wt (s : Nat → Nat) (k : Nat) : Nat := s (30 + 6 * k + 3) * 20 / s (30 + 6 * k + 2) + 1
def cg (s : Nat → Nat) (h b k : Nat) : Nat := if acr s k h = 10 then 0 else 1 - bit b (acr s k h)
def aw (s : Nat → Nat) (h b k : Nat) : Nat := if cg s h b k = 1 then wt s k else 0
def pOk (s : Nat → Nat) (k : Nat) : Prop := s (30 + 6 * k + 0) < s 0 ∧ s (30 + 6 * k + 1) < s 0 ∧ s (30 + 6 * k + 0) ≠ s (30 + 6 * k + 1) ∧ 1 ≤ s (30 + 6 * k + 2) ∧ s (30 + 6 * k + 2) ≤ 20 ∧ 1 ≤ s (30 + 6 * k + 3) ∧ s (30 + 6 * k + 3) ≤ 9999 ∧ s (30 + 6 * k + 4) ≤ 1
def Gph (s : Nat → Nat) : Prop := s 0 ≤ 10 ∧ s 1 ≤ 16 ∧ ∀ k, k < s 1 → pOk s k
theorem oth_10 {s : Nat → Nat} {k p : Nat} (h0 : s (30 + 6 * k + 0) < 10) (h1 : s (30 + 6 * k + 1) < 10) : oth s k p ≤ 10 := by
  unfold oth
  split
  · omega
  · split <;> omega
theorem acr_10 {s : Nat → Nat} {k p : Nat} (h0 : s (30 + 6 * k + 0) < 10) (h1 : s (30 + 6 * k + 1) < 10) : acr s k p ≤ 10 := by
  unfold acr
  split
  · omega
  · exact oth_10 h0 h1
theorem wt_le {s : Nat → Nat} {k : Nat} (h : pOk s k) : 1 ≤ wt s k ∧ wt s k ≤ 199981 := by
  unfold wt
  obtain ⟨_, _, _, h1, h2, h3, h4, _⟩ := h
  have h5 : s (30 + 6 * k + 3) * 20 / s (30 + 6 * k + 2) ≤ s (30 + 6 * k + 3) * 20 := Nat.div_le_self _ _
  generalize s (30 + 6 * k + 3) * 20 / s (30 + 6 * k + 2) = z at *
  omega
theorem eI_lt {n : Nat} (h : n < 10) : eI n = nI n := if_neg (by omega)
theorem eI_10 : eI 10 = -1 := if_pos rfl
theorem cg_le {s : Nat → Nat} {h b k : Nat} : cg s h b k ≤ 1 := by
  unfold cg
  split <;> omega
theorem m105 {σ : Sg} {M : Mem} (hm : IsM σ) {s : Nat → Nat} (hs : M 107 = nf s) {k p : Nat} (hk : k < 16) (h0 : s (30 + 6 * k + 0) < 10) (h1 : s (30 + 6 * k + 1) < 10) (hp : p < 10) (Q : Po) : wp 105 0 [some (.ref 106), some (.int (nI k)), some (.int (nI p))] [] σ M Q = Q (some (.int (eI (oth s k p)))) σ M := by
  unfold oth
  by_cases c0 : s (30 + 6 * k + 0) = p
  · have e0 : nI (s (30 + 6 * k + 0)) = nI p := by rw [c0]
    simp only [k105_0, k105_1, k105_2, k105_3, k105_6, k105_7, k105_10, k105_11, k105_12, k105_13, k105_16, k105_19, k105_20, k105_21, k105_22, k105_25, k105_26, k105_29, k105_30, k105_31, k105_32, k105_35, k105_38, k105_39, im_t106 hm, im_t107 hm, im_t108 hm, im_t109 hm, im_t110 hm, im_t111 hm, im_t112 hm, im_t113 hm, im_t114 hm, im_t115 hm, im_t116 hm, im_l107 hm, im_l108 hm, im_l109 hm, im_l110 hm, im_l111 hm, im_l112 hm, im_l113 hm, im_l114 hm, im_l115 hm, im_l116 hm, im_r0 hm, im_r1 hm, im_r2 hm, im_r3 hm, im_r5 hm, im_r7 hm, im_r14 hm, im_r15 hm, im_r16 hm, im_r22 hm, rf_s, pushR_s, pushR_n, le4_0, le4_1, le4_2, le4_3, le4_4, isLong_n, isLong_i, isLong_r, isLong_f, if_true, if_false, not_true_eq_false, not_false_eq_true, isI_0, isI_9, isAr_0, isAr_1, isAr_2, isAr_9, okR_i, okR_0, okR_1, putI_0, putI_b0, putI_b1, nI_10, nI_00, Nat.reduceLT, Nat.reduceLeDiff, nI_add, upM_s, upI_s, pk_mul, nf_at, m102 hm hk, hs, e0, if_pos c0, eI_lt h1]
  · have e0 := ne_n (by omega) (by omega) c0
    by_cases c1 : s (30 + 6 * k + 1) = p
    · have e1 : nI (s (30 + 6 * k + 1)) = nI p := by rw [c1]
      simp only [k105_0, k105_1, k105_2, k105_3, k105_6, k105_7, k105_10, k105_11, k105_12, k105_13, k105_16, k105_19, k105_20, k105_21, k105_22, k105_25, k105_26, k105_29, k105_30, k105_31, k105_32, k105_35, k105_38, k105_39, im_t106 hm, im_t107 hm, im_t108 hm, im_t109 hm, im_t110 hm, im_t111 hm, im_t112 hm, im_t113 hm, im_t114 hm, im_t115 hm, im_t116 hm, im_l107 hm, im_l108 hm, im_l109 hm, im_l110 hm, im_l111 hm, im_l112 hm, im_l113 hm, im_l114 hm, im_l115 hm, im_l116 hm, im_r0 hm, im_r1 hm, im_r2 hm, im_r3 hm, im_r5 hm, im_r7 hm, im_r14 hm, im_r15 hm, im_r16 hm, im_r22 hm, rf_s, pushR_s, pushR_n, le4_0, le4_1, le4_2, le4_3, le4_4, isLong_n, isLong_i, isLong_r, isLong_f, if_true, if_false, not_true_eq_false, not_false_eq_true, isI_0, isI_9, isAr_0, isAr_1, isAr_2, isAr_9, okR_i, okR_0, okR_1, putI_0, putI_b0, putI_b1, nI_10, nI_00, Nat.reduceLT, Nat.reduceLeDiff, nI_add, upM_s, upI_s, pk_mul, nf_at, m102 hm hk, hs, e0, e1, if_neg c0, if_pos c1, eI_lt h0]
    · have e1 := ne_n (by omega) (by omega) c1
      simp only [k105_0, k105_1, k105_2, k105_3, k105_6, k105_7, k105_10, k105_11, k105_12, k105_13, k105_16, k105_19, k105_20, k105_21, k105_22, k105_25, k105_26, k105_29, k105_30, k105_31, k105_32, k105_35, k105_38, k105_39, im_t106 hm, im_t107 hm, im_t108 hm, im_t109 hm, im_t110 hm, im_t111 hm, im_t112 hm, im_t113 hm, im_t114 hm, im_t115 hm, im_t116 hm, im_l107 hm, im_l108 hm, im_l109 hm, im_l110 hm, im_l111 hm, im_l112 hm, im_l113 hm, im_l114 hm, im_l115 hm, im_l116 hm, im_r0 hm, im_r1 hm, im_r2 hm, im_r3 hm, im_r5 hm, im_r7 hm, im_r14 hm, im_r15 hm, im_r16 hm, im_r22 hm, rf_s, pushR_s, pushR_n, le4_0, le4_1, le4_2, le4_3, le4_4, isLong_n, isLong_i, isLong_r, isLong_f, if_true, if_false, not_true_eq_false, not_false_eq_true, isI_0, isI_9, isAr_0, isAr_1, isAr_2, isAr_9, okR_i, okR_0, okR_1, putI_0, putI_b0, putI_b1, nI_10, nI_00, Nat.reduceLT, Nat.reduceLeDiff, nI_add, upM_s, upI_s, pk_mul, nf_at, m102 hm hk, hs, e0, e1, if_neg c0, if_neg c1, eI_10]
theorem m106 {σ : Sg} {M : Mem} (hm : IsM σ) {s : Nat → Nat} (hs : M 107 = nf s) {k : Nat} (hk : k < 16) (h : pOk s k) (Q : Po) : wp 106 0 [some (.ref 106), some (.int (nI k))] [] σ M Q = Q (some (.int (nI (wt s k)))) σ M := by
  obtain ⟨_, _, _, h1, h2, h3, h4, _⟩ := h
  have e0 : ¬ nI (s (30 + 6 * k + 2)) = 0 := nI_ne0 (by omega) (by omega)
  have e1 := pk_div (a := s (30 + 6 * k + 3) * 20) (d := s (30 + 6 * k + 2)) (by omega) (by omega) (by omega)
  simp only [k106_0, k106_1, k106_2, k106_3, k106_6, k106_8, k106_9, k106_10, k106_11, k106_12, k106_15, k106_16, k106_17, k106_18, im_t106 hm, im_t107 hm, im_t108 hm, im_t109 hm, im_t110 hm, im_t111 hm, im_t112 hm, im_t113 hm, im_t114 hm, im_t115 hm, im_t116 hm, im_l107 hm, im_l108 hm, im_l109 hm, im_l110 hm, im_l111 hm, im_l112 hm, im_l113 hm, im_l114 hm, im_l115 hm, im_l116 hm, im_r0 hm, im_r1 hm, im_r2 hm, im_r3 hm, im_r5 hm, im_r7 hm, im_r14 hm, im_r15 hm, im_r16 hm, im_r22 hm, rf_s, pushR_s, pushR_n, le4_0, le4_1, le4_2, le4_3, le4_4, isLong_n, isLong_i, isLong_r, isLong_f, if_true, if_false, not_true_eq_false, not_false_eq_true, isI_0, isI_9, isAr_0, isAr_1, isAr_2, isAr_9, okR_i, okR_0, okR_1, putI_0, putI_b0, putI_b1, nI_10, nI_00, Nat.reduceLT, Nat.reduceLeDiff, nI_add, upM_s, upI_s, pk_mul, nf_at, m102 hm hk, hs, e0, e1, wt]
