/-! what a ground holds -/
def BW (s : Nat → Nat) (W : (Nat × Nat × Nat × Nat × (Nat → Nat))) : Prop := s 9 = 0 ∧ W = W0 ∨ s 9 ≠ 0 ∧ W.1 = s 9 ∧ W.2.1 = s 10 ∧ W.2.2.1 = s 12 ∧ W.2.2.2.1 < 1024 ∧ (∀ i, i ≤ s 10 → W.2.2.2.2 i = s (20 + i)) ∧ ∀ p, p < 10 → (bit W.2.2.2.1 p = 1 ↔ ∃ i, i ≤ s 10 ∧ s (20 + i) = p)
def RG (M : Mem) (g : Nat) (s : Nat → Nat) : Prop := (M g 0 = nI (s 0)) ∧ (∀ p, p < 10 → M (g + 1) p = nI (s (126 + 2 * p + 0))) ∧ (∀ p, p < 10 → M (g + 2) p = nI (s (126 + 2 * p + 1))) ∧ (M g 3 = nI (s 1)) ∧ (∀ k, k < 16 → M (g + 3) k = nI (s (30 + 6 * k + 0))) ∧ (∀ k, k < 16 → M (g + 4) k = nI (s (30 + 6 * k + 1))) ∧ (∀ k, k < 16 → M (g + 5) k = nI (s (30 + 6 * k + 2))) ∧ (∀ k, k < 16 → M (g + 6) k = nI (s (30 + 6 * k + 3))) ∧ (∀ k, k < 16 → M (g + 7) k = nI (s (30 + 6 * k + 5))) ∧ (∀ k, k < 16 → M (g + 8) k = nI (s (30 + 6 * k + 4))) ∧ (M g 10 = nI (s 7)) ∧ (M g 11 = nI (s 8)) ∧ (∀ k, k < 7 → M (g + 9) k = nI (s (13 + k))) ∧ (M g 13 = nI (s 2)) ∧ (∀ y, y < 3 → M (g + 10) y = nI (s (4 + y))) ∧ (s 9 ≠ 0 → M g 16 = nI (s 11)) ∧ (∃ W, RW M (g + 11) W ∧ BW s W)
theorem rg_pc {M : Mem} {g : Nat} {s : Nat → Nat} (h : RG M g s) : M g 0 = nI (s 0) := h.1
theorem rg_came {M : Mem} {g : Nat} {s : Nat → Nat} (h : RG M g s) : ∀ p, p < 10 → M (g + 1) p = nI (s (126 + 2 * p + 0)) := h.2.1
theorem rg_stk {M : Mem} {g : Nat} {s : Nat → Nat} (h : RG M g s) : ∀ p, p < 10 → M (g + 2) p = nI (s (126 + 2 * p + 1)) := h.2.2.1
theorem rg_nc {M : Mem} {g : Nat} {s : Nat → Nat} (h : RG M g s) : M g 3 = nI (s 1) := h.2.2.2.1
theorem rg_one {M : Mem} {g : Nat} {s : Nat → Nat} (h : RG M g s) : ∀ k, k < 16 → M (g + 3) k = nI (s (30 + 6 * k + 0)) := h.2.2.2.2.1
theorem rg_oth {M : Mem} {g : Nat} {s : Nat → Nat} (h : RG M g s) : ∀ k, k < 16 → M (g + 4) k = nI (s (30 + 6 * k + 1)) := h.2.2.2.2.2.1
theorem rg_len {M : Mem} {g : Nat} {s : Nat → Nat} (h : RG M g s) : ∀ k, k < 16 → M (g + 5) k = nI (s (30 + 6 * k + 2)) := h.2.2.2.2.2.2.1
theorem rg_trl {M : Mem} {g : Nat} {s : Nat → Nat} (h : RG M g s) : ∀ k, k < 16 → M (g + 6) k = nI (s (30 + 6 * k + 3)) := h.2.2.2.2.2.2.2.1
theorem rg_wal {M : Mem} {g : Nat} {s : Nat → Nat} (h : RG M g s) : ∀ k, k < 16 → M (g + 7) k = nI (s (30 + 6 * k + 5)) := h.2.2.2.2.2.2.2.2.1
theorem rg_clo {M : Mem} {g : Nat} {s : Nat → Nat} (h : RG M g s) : ∀ k, k < 16 → M (g + 8) k = nI (s (30 + 6 * k + 4)) := h.2.2.2.2.2.2.2.2.2.1
theorem rg_food {M : Mem} {g : Nat} {s : Nat → Nat} (h : RG M g s) : M g 10 = nI (s 7) := h.2.2.2.2.2.2.2.2.2.2.1
theorem rg_x {M : Mem} {g : Nat} {s : Nat → Nat} (h : RG M g s) : M g 11 = nI (s 8) := h.2.2.2.2.2.2.2.2.2.2.2.1
theorem rg_set {M : Mem} {g : Nat} {s : Nat → Nat} (h : RG M g s) : ∀ k, k < 7 → M (g + 9) k = nI (s (13 + k)) := h.2.2.2.2.2.2.2.2.2.2.2.2.1
theorem rg_laps {M : Mem} {g : Nat} {s : Nat → Nat} (h : RG M g s) : M g 13 = nI (s 2) := h.2.2.2.2.2.2.2.2.2.2.2.2.2.1
theorem rg_end {M : Mem} {g : Nat} {s : Nat → Nat} (h : RG M g s) : ∀ y, y < 3 → M (g + 10) y = nI (s (4 + y)) := h.2.2.2.2.2.2.2.2.2.2.2.2.2.2.1
theorem rg_bl {M : Mem} {g : Nat} {s : Nat → Nat} (h : RG M g s) : s 9 ≠ 0 → M g 16 = nI (s 11) := h.2.2.2.2.2.2.2.2.2.2.2.2.2.2.2.1
theorem rg_best {M : Mem} {g : Nat} {s : Nat → Nat} (h : RG M g s) : ∃ W, RW M (g + 11) W ∧ BW s W := h.2.2.2.2.2.2.2.2.2.2.2.2.2.2.2.2
theorem BW_ok {s : Nat → Nat} (i : Inv s) {W : (Nat × Nat × Nat × Nat × (Nat → Nat))} (b : BW s W) : W.2.1 ≤ 9 ∧ W.2.2.1 < 2 ^ 16 ∧ W.2.2.2.1 < 1024 ∧ W.1 ≤ 180 ∧ (W.2.1 = 0 ↔ s 9 = 0) ∧ (W.1 = 0 ↔ s 9 = 0) := by
  rcases b with ⟨h, e⟩ | ⟨h, e1, e2, e3, e4, e5⟩
  · subst e
    exact ⟨by decide, by decide, by decide, by decide, ⟨fun _ => h, fun _ => rfl⟩, ⟨fun _ => h, fun _ => rfl⟩⟩
  · obtain ⟨q1, q2, q3, q4, q5, q6, q7⟩ := i.2.2.2.2.1 h
    exact ⟨by omega, by omega, e4, by omega, ⟨fun q => by omega, fun q => absurd q h⟩, ⟨fun q => by omega, fun q => absurd q h⟩⟩
section GND
variable {σ : Sg} {M : Mem} {g : Nat} {s : Nat → Nat}
theorem c38y (hg : IsG σ g) (r : RG M g s) (i : Inv s) {p : Nat} (hp : p < s 0) (Q : Po) : wp 38 0 [some (.ref g), some (.int (nI p))] [] σ M Q = Q (some (.int (nI 1))) σ M := by
  have g0 := i.1.1
  have z : ¬ nI p < 0 := nI_pos (by omega)
  have z1 : nI p < nI (s 0) := nI_lt hp (by omega)
  have z2 : nI p < nI 10 := nI_lt (by omega) (by omega)
  simp only [k38_0, k38_1, k38_4, k38_5, k38_6, k38_9, k38_12, k38_13, k38_15, k38_18, k38_19, k38_22, k38_23, ig_t0 hg, ig_t1 hg, ig_t2 hg, ig_t3 hg, ig_t4 hg, ig_t5 hg, ig_t6 hg, ig_t7 hg, ig_t8 hg, ig_t9 hg, ig_t10 hg, ig_t11 hg, ig_t12 hg, ig_l1 hg, ig_l2 hg, ig_l3 hg, ig_l4 hg, ig_l5 hg, ig_l6 hg, ig_l7 hg, ig_l8 hg, ig_l9 hg, ig_l10 hg, ig_l12 hg, ig_r1 hg, ig_r2 hg, ig_r4 hg, ig_r5 hg, ig_r6 hg, ig_r7 hg, ig_r8 hg, ig_r9 hg, ig_r12 hg, ig_r14 hg, ig_r15 hg, ig_rw hg, rf_s, pushR_s, pushR_n, le4_0, le4_1, le4_2, le4_3, le4_4, isLong_n, isLong_i, isLong_r, isLong_f, if_true, if_false, not_true_eq_false, not_false_eq_true, isI_0, isI_9, isAr_0, isAr_1, isAr_2, isAr_9, okR_i, okR_0, okR_1, putI_0, putI_b0, putI_b1, nI_10, nI_00, Nat.reduceLT, Nat.reduceLeDiff, nI_add, upM_s, upI_s, pk_mul, nf_at, z, z1, z2, rg_pc r]
theorem c38n (hg : IsG σ g) (r : RG M g s) (i : Inv s) {v : Int32} (h : ¬ ∃ p, p < s 0 ∧ v = nI p) (Q : Po) : wp 38 0 [some (.ref g), some (.int v)] [] σ M Q = Q (some (.int (nI 0))) σ M := by
  have g0 := i.1.1
  by_cases c : v < 0
  · simp only [k38_0, k38_1, k38_4, k38_5, k38_6, k38_9, k38_12, k38_13, k38_15, k38_18, k38_19, k38_22, k38_23, ig_t0 hg, ig_t1 hg, ig_t2 hg, ig_t3 hg, ig_t4 hg, ig_t5 hg, ig_t6 hg, ig_t7 hg, ig_t8 hg, ig_t9 hg, ig_t10 hg, ig_t11 hg, ig_t12 hg, ig_l1 hg, ig_l2 hg, ig_l3 hg, ig_l4 hg, ig_l5 hg, ig_l6 hg, ig_l7 hg, ig_l8 hg, ig_l9 hg, ig_l10 hg, ig_l12 hg, ig_r1 hg, ig_r2 hg, ig_r4 hg, ig_r5 hg, ig_r6 hg, ig_r7 hg, ig_r8 hg, ig_r9 hg, ig_r12 hg, ig_r14 hg, ig_r15 hg, ig_rw hg, rf_s, pushR_s, pushR_n, le4_0, le4_1, le4_2, le4_3, le4_4, isLong_n, isLong_i, isLong_r, isLong_f, if_true, if_false, not_true_eq_false, not_false_eq_true, isI_0, isI_9, isAr_0, isAr_1, isAr_2, isAr_9, okR_i, okR_0, okR_1, putI_0, putI_b0, putI_b1, nI_10, nI_00, Nat.reduceLT, Nat.reduceLeDiff, nI_add, upM_s, upI_s, pk_mul, nf_at, c]
  · have z : ¬ v < nI (s 0) := fun q => by
      rcases pk_ix v (n := s 0) (by omega) with h1 | h1 | ⟨j, hj, e⟩
      · exact c h1
      · exact nle_of_lt q h1
      · exact h ⟨j, hj, e⟩
    simp only [k38_0, k38_1, k38_4, k38_5, k38_6, k38_9, k38_12, k38_13, k38_15, k38_18, k38_19, k38_22, k38_23, ig_t0 hg, ig_t1 hg, ig_t2 hg, ig_t3 hg, ig_t4 hg, ig_t5 hg, ig_t6 hg, ig_t7 hg, ig_t8 hg, ig_t9 hg, ig_t10 hg, ig_t11 hg, ig_t12 hg, ig_l1 hg, ig_l2 hg, ig_l3 hg, ig_l4 hg, ig_l5 hg, ig_l6 hg, ig_l7 hg, ig_l8 hg, ig_l9 hg, ig_l10 hg, ig_l12 hg, ig_r1 hg, ig_r2 hg, ig_r4 hg, ig_r5 hg, ig_r6 hg, ig_r7 hg, ig_r8 hg, ig_r9 hg, ig_r12 hg, ig_r14 hg, ig_r15 hg, ig_rw hg, rf_s, pushR_s, pushR_n, le4_0, le4_1, le4_2, le4_3, le4_4, isLong_n, isLong_i, isLong_r, isLong_f, if_true, if_false, not_true_eq_false, not_false_eq_true, isI_0, isI_9, isAr_0, isAr_1, isAr_2, isAr_9, okR_i, okR_0, okR_1, putI_0, putI_b0, putI_b1, nI_10, nI_00, Nat.reduceLT, Nat.reduceLeDiff, nI_add, upM_s, upI_s, pk_mul, nf_at, c, z, rg_pc r]
theorem c39y (hg : IsG σ g) (r : RG M g s) (i : Inv s) {p : Nat} (hp : p < s 1) (Q : Po) : wp 39 0 [some (.ref g), some (.int (nI p))] [] σ M Q = Q (some (.int (nI 1))) σ M := by
  have g0 := i.1.2.1
  have z : ¬ nI p < 0 := nI_pos (by omega)
  have z1 : nI p < nI (s 1) := nI_lt hp (by omega)
  have z2 : nI p < nI 16 := nI_lt (by omega) (by omega)
  simp only [k39_0, k39_1, k39_4, k39_5, k39_6, k39_9, k39_12, k39_13, k39_15, k39_18, k39_19, k39_22, k39_23, ig_t0 hg, ig_t1 hg, ig_t2 hg, ig_t3 hg, ig_t4 hg, ig_t5 hg, ig_t6 hg, ig_t7 hg, ig_t8 hg, ig_t9 hg, ig_t10 hg, ig_t11 hg, ig_t12 hg, ig_l1 hg, ig_l2 hg, ig_l3 hg, ig_l4 hg, ig_l5 hg, ig_l6 hg, ig_l7 hg, ig_l8 hg, ig_l9 hg, ig_l10 hg, ig_l12 hg, ig_r1 hg, ig_r2 hg, ig_r4 hg, ig_r5 hg, ig_r6 hg, ig_r7 hg, ig_r8 hg, ig_r9 hg, ig_r12 hg, ig_r14 hg, ig_r15 hg, ig_rw hg, rf_s, pushR_s, pushR_n, le4_0, le4_1, le4_2, le4_3, le4_4, isLong_n, isLong_i, isLong_r, isLong_f, if_true, if_false, not_true_eq_false, not_false_eq_true, isI_0, isI_9, isAr_0, isAr_1, isAr_2, isAr_9, okR_i, okR_0, okR_1, putI_0, putI_b0, putI_b1, nI_10, nI_00, Nat.reduceLT, Nat.reduceLeDiff, nI_add, upM_s, upI_s, pk_mul, nf_at, z, z1, z2, rg_nc r]
theorem c39n (hg : IsG σ g) (r : RG M g s) (i : Inv s) {v : Int32} (h : ¬ ∃ p, p < s 1 ∧ v = nI p) (Q : Po) : wp 39 0 [some (.ref g), some (.int v)] [] σ M Q = Q (some (.int (nI 0))) σ M := by
  have g0 := i.1.2.1
  by_cases c : v < 0
  · simp only [k39_0, k39_1, k39_4, k39_5, k39_6, k39_9, k39_12, k39_13, k39_15, k39_18, k39_19, k39_22, k39_23, ig_t0 hg, ig_t1 hg, ig_t2 hg, ig_t3 hg, ig_t4 hg, ig_t5 hg, ig_t6 hg, ig_t7 hg, ig_t8 hg, ig_t9 hg, ig_t10 hg, ig_t11 hg, ig_t12 hg, ig_l1 hg, ig_l2 hg, ig_l3 hg, ig_l4 hg, ig_l5 hg, ig_l6 hg, ig_l7 hg, ig_l8 hg, ig_l9 hg, ig_l10 hg, ig_l12 hg, ig_r1 hg, ig_r2 hg, ig_r4 hg, ig_r5 hg, ig_r6 hg, ig_r7 hg, ig_r8 hg, ig_r9 hg, ig_r12 hg, ig_r14 hg, ig_r15 hg, ig_rw hg, rf_s, pushR_s, pushR_n, le4_0, le4_1, le4_2, le4_3, le4_4, isLong_n, isLong_i, isLong_r, isLong_f, if_true, if_false, not_true_eq_false, not_false_eq_true, isI_0, isI_9, isAr_0, isAr_1, isAr_2, isAr_9, okR_i, okR_0, okR_1, putI_0, putI_b0, putI_b1, nI_10, nI_00, Nat.reduceLT, Nat.reduceLeDiff, nI_add, upM_s, upI_s, pk_mul, nf_at, c]
  · have z : ¬ v < nI (s 1) := fun q => by
      rcases pk_ix v (n := s 1) (by omega) with h1 | h1 | ⟨j, hj, e⟩
      · exact c h1
      · exact nle_of_lt q h1
      · exact h ⟨j, hj, e⟩
    simp only [k39_0, k39_1, k39_4, k39_5, k39_6, k39_9, k39_12, k39_13, k39_15, k39_18, k39_19, k39_22, k39_23, ig_t0 hg, ig_t1 hg, ig_t2 hg, ig_t3 hg, ig_t4 hg, ig_t5 hg, ig_t6 hg, ig_t7 hg, ig_t8 hg, ig_t9 hg, ig_t10 hg, ig_t11 hg, ig_t12 hg, ig_l1 hg, ig_l2 hg, ig_l3 hg, ig_l4 hg, ig_l5 hg, ig_l6 hg, ig_l7 hg, ig_l8 hg, ig_l9 hg, ig_l10 hg, ig_l12 hg, ig_r1 hg, ig_r2 hg, ig_r4 hg, ig_r5 hg, ig_r6 hg, ig_r7 hg, ig_r8 hg, ig_r9 hg, ig_r12 hg, ig_r14 hg, ig_r15 hg, ig_rw hg, rf_s, pushR_s, pushR_n, le4_0, le4_1, le4_2, le4_3, le4_4, isLong_n, isLong_i, isLong_r, isLong_f, if_true, if_false, not_true_eq_false, not_false_eq_true, isI_0, isI_9, isAr_0, isAr_1, isAr_2, isAr_9, okR_i, okR_0, okR_1, putI_0, putI_b0, putI_b1, nI_10, nI_00, Nat.reduceLT, Nat.reduceLeDiff, nI_add, upM_s, upI_s, pk_mul, nf_at, c, z, rg_nc r]
theorem c40 (hg : IsG σ g) (r : RG M g s) (i : Inv s) (Q : Po) : wp 40 0 [some (.ref g)] [] σ M Q = Q (some (.int (nI (if s 0 < 2 then 0 else 1)))) σ M := by
  have g0 := i.1.1
  by_cases c : s 0 < 2
  · have z : nI (s 0) < nI 2 := nI_lt c (by omega)
    simp only [k40_0, k40_1, k40_4, k40_5, k40_8, k40_9, k40_12, k40_13, ig_t0 hg, ig_t1 hg, ig_t2 hg, ig_t3 hg, ig_t4 hg, ig_t5 hg, ig_t6 hg, ig_t7 hg, ig_t8 hg, ig_t9 hg, ig_t10 hg, ig_t11 hg, ig_t12 hg, ig_l1 hg, ig_l2 hg, ig_l3 hg, ig_l4 hg, ig_l5 hg, ig_l6 hg, ig_l7 hg, ig_l8 hg, ig_l9 hg, ig_l10 hg, ig_l12 hg, ig_r1 hg, ig_r2 hg, ig_r4 hg, ig_r5 hg, ig_r6 hg, ig_r7 hg, ig_r8 hg, ig_r9 hg, ig_r12 hg, ig_r14 hg, ig_r15 hg, ig_rw hg, rf_s, pushR_s, pushR_n, le4_0, le4_1, le4_2, le4_3, le4_4, isLong_n, isLong_i, isLong_r, isLong_f, if_true, if_false, not_true_eq_false, not_false_eq_true, isI_0, isI_9, isAr_0, isAr_1, isAr_2, isAr_9, okR_i, okR_0, okR_1, putI_0, putI_b0, putI_b1, nI_10, nI_00, Nat.reduceLT, Nat.reduceLeDiff, nI_add, upM_s, upI_s, pk_mul, nf_at, z, c, rg_pc r]
  · have z : ¬ nI (s 0) < nI 2 := nI_nlt (by omega) (by omega)
    simp only [k40_0, k40_1, k40_4, k40_5, k40_8, k40_9, k40_12, k40_13, ig_t0 hg, ig_t1 hg, ig_t2 hg, ig_t3 hg, ig_t4 hg, ig_t5 hg, ig_t6 hg, ig_t7 hg, ig_t8 hg, ig_t9 hg, ig_t10 hg, ig_t11 hg, ig_t12 hg, ig_l1 hg, ig_l2 hg, ig_l3 hg, ig_l4 hg, ig_l5 hg, ig_l6 hg, ig_l7 hg, ig_l8 hg, ig_l9 hg, ig_l10 hg, ig_l12 hg, ig_r1 hg, ig_r2 hg, ig_r4 hg, ig_r5 hg, ig_r6 hg, ig_r7 hg, ig_r8 hg, ig_r9 hg, ig_r12 hg, ig_r14 hg, ig_r15 hg, ig_rw hg, rf_s, pushR_s, pushR_n, le4_0, le4_1, le4_2, le4_3, le4_4, isLong_n, isLong_i, isLong_r, isLong_f, if_true, if_false, not_true_eq_false, not_false_eq_true, isI_0, isI_9, isAr_0, isAr_1, isAr_2, isAr_9, okR_i, okR_0, okR_1, putI_0, putI_b0, putI_b1, nI_10, nI_00, Nat.reduceLT, Nat.reduceLeDiff, nI_add, upM_s, upI_s, pk_mul, nf_at, z, c, rg_pc r]
theorem c41 (hg : IsG σ g) (r : RG M g s) (i : Inv s) (Q : Po) : wp 41 0 [some (.ref g)] [] σ M Q = Q (some (.int (nI (if s 9 = 0 then 0 else 1)))) σ M := by
  obtain ⟨W, r1, b⟩ := rg_best r
  obtain ⟨b1, b2, b3, b4, b5, b6⟩ := BW_ok i b
  by_cases c : s 9 = 0
  · have e := b5.2 c
    have z : ¬ 0 < nI 0 := by decide
    simp only [k41_0, k41_1, k41_4, k41_7, k41_10, k41_11, k41_14, k41_15, ig_t0 hg, ig_t1 hg, ig_t2 hg, ig_t3 hg, ig_t4 hg, ig_t5 hg, ig_t6 hg, ig_t7 hg, ig_t8 hg, ig_t9 hg, ig_t10 hg, ig_t11 hg, ig_t12 hg, ig_l1 hg, ig_l2 hg, ig_l3 hg, ig_l4 hg, ig_l5 hg, ig_l6 hg, ig_l7 hg, ig_l8 hg, ig_l9 hg, ig_l10 hg, ig_l12 hg, ig_r1 hg, ig_r2 hg, ig_r4 hg, ig_r5 hg, ig_r6 hg, ig_r7 hg, ig_r8 hg, ig_r9 hg, ig_r12 hg, ig_r14 hg, ig_r15 hg, ig_rw hg, rf_s, pushR_s, pushR_n, le4_0, le4_1, le4_2, le4_3, le4_4, isLong_n, isLong_i, isLong_r, isLong_f, if_true, if_false, not_true_eq_false, not_false_eq_true, isI_0, isI_9, isAr_0, isAr_1, isAr_2, isAr_9, okR_i, okR_0, okR_1, putI_0, putI_b0, putI_b1, nI_10, nI_00, Nat.reduceLT, Nat.reduceLeDiff, nI_add, upM_s, upI_s, pk_mul, nf_at, r1.1, e, z, c]
  · have e : W.2.1 ≠ 0 := fun q => c (b5.1 q)
    have z : 0 < nI W.2.1 := by rw [← nI_0]; exact nI_lt (by omega) (by omega)
    simp only [k41_0, k41_1, k41_4, k41_7, k41_10, k41_11, k41_14, k41_15, ig_t0 hg, ig_t1 hg, ig_t2 hg, ig_t3 hg, ig_t4 hg, ig_t5 hg, ig_t6 hg, ig_t7 hg, ig_t8 hg, ig_t9 hg, ig_t10 hg, ig_t11 hg, ig_t12 hg, ig_l1 hg, ig_l2 hg, ig_l3 hg, ig_l4 hg, ig_l5 hg, ig_l6 hg, ig_l7 hg, ig_l8 hg, ig_l9 hg, ig_l10 hg, ig_l12 hg, ig_r1 hg, ig_r2 hg, ig_r4 hg, ig_r5 hg, ig_r6 hg, ig_r7 hg, ig_r8 hg, ig_r9 hg, ig_r12 hg, ig_r14 hg, ig_r15 hg, ig_rw hg, rf_s, pushR_s, pushR_n, le4_0, le4_1, le4_2, le4_3, le4_4, isLong_n, isLong_i, isLong_r, isLong_f, if_true, if_false, not_true_eq_false, not_false_eq_true, isI_0, isI_9, isAr_0, isAr_1, isAr_2, isAr_9, okR_i, okR_0, okR_1, putI_0, putI_b0, putI_b1, nI_10, nI_00, Nat.reduceLT, Nat.reduceLeDiff, nI_add, upM_s, upI_s, pk_mul, nf_at, r1.1, z, c]
theorem c42 (hg : IsG σ g) (r : RG M g s) (i : Inv s) {k : Nat} (hk : k < s 1) (Q : Po) : wp 42 0 [some (.ref g), some (.int (nI k))] [] σ M Q = Q (some (.int (nI (s (30 + 6 * k + 4))))) σ M := by
  have g0 := i.1.2.1
  have m := fun Q => c39y (Q := Q) hg r i hk
  have h16 : k < 16 := by omega
  have e := rg_clo r k h16
  have hc := (i.1.2.2 k hk).2.2.2.2.2.2.2
  have z : ¬ nI 0 = nI 1 := by decide
  rcases (show s (30 + 6 * k + 4) = 0 ∨ s (30 + 6 * k + 4) = 1 by omega) with c | c
  · rw [c] at e ⊢
    simp only [k42_0, k42_1, k42_2, k42_5, k42_8, k42_9, k42_12, k42_13, k42_14, k42_15, k42_18, k42_19, k42_22, k42_23, ig_t0 hg, ig_t1 hg, ig_t2 hg, ig_t3 hg, ig_t4 hg, ig_t5 hg, ig_t6 hg, ig_t7 hg, ig_t8 hg, ig_t9 hg, ig_t10 hg, ig_t11 hg, ig_t12 hg, ig_l1 hg, ig_l2 hg, ig_l3 hg, ig_l4 hg, ig_l5 hg, ig_l6 hg, ig_l7 hg, ig_l8 hg, ig_l9 hg, ig_l10 hg, ig_l12 hg, ig_r1 hg, ig_r2 hg, ig_r4 hg, ig_r5 hg, ig_r6 hg, ig_r7 hg, ig_r8 hg, ig_r9 hg, ig_r12 hg, ig_r14 hg, ig_r15 hg, ig_rw hg, rf_s, pushR_s, pushR_n, le4_0, le4_1, le4_2, le4_3, le4_4, isLong_n, isLong_i, isLong_r, isLong_f, if_true, if_false, not_true_eq_false, not_false_eq_true, isI_0, isI_9, isAr_0, isAr_1, isAr_2, isAr_9, okR_i, okR_0, okR_1, putI_0, putI_b0, putI_b1, nI_10, nI_00, Nat.reduceLT, Nat.reduceLeDiff, nI_add, upM_s, upI_s, pk_mul, nf_at, m, h16, e, z]
  · rw [c] at e ⊢
    simp only [k42_0, k42_1, k42_2, k42_5, k42_8, k42_9, k42_12, k42_13, k42_14, k42_15, k42_18, k42_19, k42_22, k42_23, ig_t0 hg, ig_t1 hg, ig_t2 hg, ig_t3 hg, ig_t4 hg, ig_t5 hg, ig_t6 hg, ig_t7 hg, ig_t8 hg, ig_t9 hg, ig_t10 hg, ig_t11 hg, ig_t12 hg, ig_l1 hg, ig_l2 hg, ig_l3 hg, ig_l4 hg, ig_l5 hg, ig_l6 hg, ig_l7 hg, ig_l8 hg, ig_l9 hg, ig_l10 hg, ig_l12 hg, ig_r1 hg, ig_r2 hg, ig_r4 hg, ig_r5 hg, ig_r6 hg, ig_r7 hg, ig_r8 hg, ig_r9 hg, ig_r12 hg, ig_r14 hg, ig_r15 hg, ig_rw hg, rf_s, pushR_s, pushR_n, le4_0, le4_1, le4_2, le4_3, le4_4, isLong_n, isLong_i, isLong_r, isLong_f, if_true, if_false, not_true_eq_false, not_false_eq_true, isI_0, isI_9, isAr_0, isAr_1, isAr_2, isAr_9, okR_i, okR_0, okR_1, putI_0, putI_b0, putI_b1, nI_10, nI_00, Nat.reduceLT, Nat.reduceLeDiff, nI_add, upM_s, upI_s, pk_mul, nf_at, m, h16, e]
theorem c43 (hg : IsG σ g) (r : RG M g s) {k : Nat} (hk : k < 7) (Q : Po) : wp 43 0 [some (.ref g), some (.int (nI k))] [] σ M Q = Q (some (.int (nI (s (13 + k))))) σ M := by
  have z : ¬ nI k < 0 := nI_pos (by omega)
  have z1 : nI k < nI 7 := nI_lt hk (by omega)
  have e := rg_set r k hk
  simp only [k43_0, k43_1, k43_4, k43_5, k43_6, k43_9, k43_10, k43_13, k43_14, k43_17, k43_18, k43_19, k43_22, k43_23, ig_t0 hg, ig_t1 hg, ig_t2 hg, ig_t3 hg, ig_t4 hg, ig_t5 hg, ig_t6 hg, ig_t7 hg, ig_t8 hg, ig_t9 hg, ig_t10 hg, ig_t11 hg, ig_t12 hg, ig_l1 hg, ig_l2 hg, ig_l3 hg, ig_l4 hg, ig_l5 hg, ig_l6 hg, ig_l7 hg, ig_l8 hg, ig_l9 hg, ig_l10 hg, ig_l12 hg, ig_r1 hg, ig_r2 hg, ig_r4 hg, ig_r5 hg, ig_r6 hg, ig_r7 hg, ig_r8 hg, ig_r9 hg, ig_r12 hg, ig_r14 hg, ig_r15 hg, ig_rw hg, rf_s, pushR_s, pushR_n, le4_0, le4_1, le4_2, le4_3, le4_4, isLong_n, isLong_i, isLong_r, isLong_f, if_true, if_false, not_true_eq_false, not_false_eq_true, isI_0, isI_9, isAr_0, isAr_1, isAr_2, isAr_9, okR_i, okR_0, okR_1, putI_0, putI_b0, putI_b1, nI_10, nI_00, Nat.reduceLT, Nat.reduceLeDiff, nI_add, upM_s, upI_s, pk_mul, nf_at, z, z1, hk, e]
theorem c44 (hg : IsG σ g) (r : RG M g s) (i : Inv s) {k : Nat} (hk : k < s 1) (Q : Po) : wp 44 0 [some (.ref g), some (.int (nI k))] [] σ M Q = Q (some (.int (nI (s (30 + 6 * k + 2))))) σ M := by
  have g0 := i.1.2.1
  have m := fun Q => c39y (Q := Q) hg r i hk
  have h16 : k < 16 := by omega
  have e := rg_len r k h16
  simp only [k44_0, k44_1, k44_2, k44_5, k44_8, k44_9, k44_12, k44_13, k44_14, k44_17, k44_18, ig_t0 hg, ig_t1 hg, ig_t2 hg, ig_t3 hg, ig_t4 hg, ig_t5 hg, ig_t6 hg, ig_t7 hg, ig_t8 hg, ig_t9 hg, ig_t10 hg, ig_t11 hg, ig_t12 hg, ig_l1 hg, ig_l2 hg, ig_l3 hg, ig_l4 hg, ig_l5 hg, ig_l6 hg, ig_l7 hg, ig_l8 hg, ig_l9 hg, ig_l10 hg, ig_l12 hg, ig_r1 hg, ig_r2 hg, ig_r4 hg, ig_r5 hg, ig_r6 hg, ig_r7 hg, ig_r8 hg, ig_r9 hg, ig_r12 hg, ig_r14 hg, ig_r15 hg, ig_rw hg, rf_s, pushR_s, pushR_n, le4_0, le4_1, le4_2, le4_3, le4_4, isLong_n, isLong_i, isLong_r, isLong_f, if_true, if_false, not_true_eq_false, not_false_eq_true, isI_0, isI_9, isAr_0, isAr_1, isAr_2, isAr_9, okR_i, okR_0, okR_1, putI_0, putI_b0, putI_b1, nI_10, nI_00, Nat.reduceLT, Nat.reduceLeDiff, nI_add, upM_s, upI_s, pk_mul, nf_at, m, h16, e]
theorem c45 (hg : IsG σ g) (r : RG M g s) (i : Inv s) {k : Nat} (hk : k < s 1) (Q : Po) : wp 45 0 [some (.ref g), some (.int (nI k))] [] σ M Q = Q (some (.int (nI (wt s k)))) σ M := by
  have g0 := i.1.2.1
  have m := fun Q => c39y (Q := Q) hg r i hk
  have h16 : k < 16 := by omega
  have e := rg_len r k h16
  have e2 := rg_trl r k h16
  obtain ⟨_, _, _, h1, h2, h3, h4, _⟩ := i.1.2.2 k hk
  have z : ¬ nI (s (30 + 6 * k + 2)) < nI 1 := nI_nlt (by omega) (by omega)
  have z0 : ¬ nI (s (30 + 6 * k + 2)) = 0 := nI_ne0 (by omega) (by omega)
  have d := pk_div (a := s (30 + 6 * k + 3) * 20) (d := s (30 + 6 * k + 2)) (by omega) (by omega) (by omega)
  simp only [k45_0, k45_1, k45_2, k45_5, k45_8, k45_9, k45_12, k45_13, k45_14, k45_15, k45_18, k45_19, k45_20, k45_21, k45_24, k45_25, k45_26, k45_28, k45_29, k45_30, k45_33, k45_34, k45_35, k45_36, k45_37, k45_38, ig_t0 hg, ig_t1 hg, ig_t2 hg, ig_t3 hg, ig_t4 hg, ig_t5 hg, ig_t6 hg, ig_t7 hg, ig_t8 hg, ig_t9 hg, ig_t10 hg, ig_t11 hg, ig_t12 hg, ig_l1 hg, ig_l2 hg, ig_l3 hg, ig_l4 hg, ig_l5 hg, ig_l6 hg, ig_l7 hg, ig_l8 hg, ig_l9 hg, ig_l10 hg, ig_l12 hg, ig_r1 hg, ig_r2 hg, ig_r4 hg, ig_r5 hg, ig_r6 hg, ig_r7 hg, ig_r8 hg, ig_r9 hg, ig_r12 hg, ig_r14 hg, ig_r15 hg, ig_rw hg, rf_s, pushR_s, pushR_n, le4_0, le4_1, le4_2, le4_3, le4_4, isLong_n, isLong_i, isLong_r, isLong_f, if_true, if_false, not_true_eq_false, not_false_eq_true, isI_0, isI_9, isAr_0, isAr_1, isAr_2, isAr_9, okR_i, okR_0, okR_1, putI_0, putI_b0, putI_b1, nI_10, nI_00, Nat.reduceLT, Nat.reduceLeDiff, nI_add, upM_s, upI_s, pk_mul, nf_at, m, h16, e, e2, z, z0, d, wt]
theorem c46 (hg : IsG σ g) (r : RG M g s) (i : Inv s) {k p : Nat} (hk : k < s 1) (hp : p < 10) (Q : Po) : wp 46 0 [some (.ref g), some (.int (nI k)), some (.int (nI p))] [] σ M Q = Q (some (.int (eI (acr s k p)))) σ M := by
  have g0 := i.1.2.1
  have m := fun Q => c39y (Q := Q) hg r i hk
  have h16 : k < 16 := by omega
  have e0 := rg_one r k h16
  have e1 := rg_oth r k h16
  have e4 := rg_clo r k h16
  obtain ⟨l0, l1⟩ := pOk10 i.1 hk
  have hc := (i.1.2.2 k hk).2.2.2.2.2.2.2
  unfold acr oth
  rcases (show s (30 + 6 * k + 4) = 0 ∨ s (30 + 6 * k + 4) = 1 by omega) with c | c
  · have z : ¬ nI 0 = nI 1 := by decide
    rw [c] at e4 ⊢
    by_cases c0 : s (30 + 6 * k + 0) = p
    · have q0 : nI (s (30 + 6 * k + 0)) = nI p := by rw [c0]
      simp only [k46_0, k46_1, k46_2, k46_5, k46_8, k46_9, k46_12, k46_13, k46_14, k46_15, k46_18, k46_19, k46_20, k46_21, k46_24, k46_25, k46_26, k46_27, k46_30, k46_31, k46_34, k46_35, k46_36, k46_37, k46_38, k46_41, k46_42, k46_43, k46_44, k46_47, k46_48, k46_51, k46_52, k46_53, k46_56, k46_57, ig_t0 hg, ig_t1 hg, ig_t2 hg, ig_t3 hg, ig_t4 hg, ig_t5 hg, ig_t6 hg, ig_t7 hg, ig_t8 hg, ig_t9 hg, ig_t10 hg, ig_t11 hg, ig_t12 hg, ig_l1 hg, ig_l2 hg, ig_l3 hg, ig_l4 hg, ig_l5 hg, ig_l6 hg, ig_l7 hg, ig_l8 hg, ig_l9 hg, ig_l10 hg, ig_l12 hg, ig_r1 hg, ig_r2 hg, ig_r4 hg, ig_r5 hg, ig_r6 hg, ig_r7 hg, ig_r8 hg, ig_r9 hg, ig_r12 hg, ig_r14 hg, ig_r15 hg, ig_rw hg, rf_s, pushR_s, pushR_n, le4_0, le4_1, le4_2, le4_3, le4_4, isLong_n, isLong_i, isLong_r, isLong_f, if_true, if_false, not_true_eq_false, not_false_eq_true, isI_0, isI_9, isAr_0, isAr_1, isAr_2, isAr_9, okR_i, okR_0, okR_1, putI_0, putI_b0, putI_b1, nI_10, nI_00, Nat.reduceLT, Nat.reduceLeDiff, nI_add, upM_s, upI_s, pk_mul, nf_at, m, h16, e0, e1, e4, z, q0, if_pos c0, eI_lt l1, Nat.reduceEqDiff]
    · have q0 := ne_n (by omega) (by omega) c0
      by_cases c1 : s (30 + 6 * k + 1) = p
      · have q1 : nI (s (30 + 6 * k + 1)) = nI p := by rw [c1]
        simp only [k46_0, k46_1, k46_2, k46_5, k46_8, k46_9, k46_12, k46_13, k46_14, k46_15, k46_18, k46_19, k46_20, k46_21, k46_24, k46_25, k46_26, k46_27, k46_30, k46_31, k46_34, k46_35, k46_36, k46_37, k46_38, k46_41, k46_42, k46_43, k46_44, k46_47, k46_48, k46_51, k46_52, k46_53, k46_56, k46_57, ig_t0 hg, ig_t1 hg, ig_t2 hg, ig_t3 hg, ig_t4 hg, ig_t5 hg, ig_t6 hg, ig_t7 hg, ig_t8 hg, ig_t9 hg, ig_t10 hg, ig_t11 hg, ig_t12 hg, ig_l1 hg, ig_l2 hg, ig_l3 hg, ig_l4 hg, ig_l5 hg, ig_l6 hg, ig_l7 hg, ig_l8 hg, ig_l9 hg, ig_l10 hg, ig_l12 hg, ig_r1 hg, ig_r2 hg, ig_r4 hg, ig_r5 hg, ig_r6 hg, ig_r7 hg, ig_r8 hg, ig_r9 hg, ig_r12 hg, ig_r14 hg, ig_r15 hg, ig_rw hg, rf_s, pushR_s, pushR_n, le4_0, le4_1, le4_2, le4_3, le4_4, isLong_n, isLong_i, isLong_r, isLong_f, if_true, if_false, not_true_eq_false, not_false_eq_true, isI_0, isI_9, isAr_0, isAr_1, isAr_2, isAr_9, okR_i, okR_0, okR_1, putI_0, putI_b0, putI_b1, nI_10, nI_00, Nat.reduceLT, Nat.reduceLeDiff, nI_add, upM_s, upI_s, pk_mul, nf_at, m, h16, e0, e1, e4, z, q0, q1, if_neg c0, if_pos c1, eI_lt l0, Nat.reduceEqDiff]
      · have q1 := ne_n (by omega) (by omega) c1
        simp only [k46_0, k46_1, k46_2, k46_5, k46_8, k46_9, k46_12, k46_13, k46_14, k46_15, k46_18, k46_19, k46_20, k46_21, k46_24, k46_25, k46_26, k46_27, k46_30, k46_31, k46_34, k46_35, k46_36, k46_37, k46_38, k46_41, k46_42, k46_43, k46_44, k46_47, k46_48, k46_51, k46_52, k46_53, k46_56, k46_57, ig_t0 hg, ig_t1 hg, ig_t2 hg, ig_t3 hg, ig_t4 hg, ig_t5 hg, ig_t6 hg, ig_t7 hg, ig_t8 hg, ig_t9 hg, ig_t10 hg, ig_t11 hg, ig_t12 hg, ig_l1 hg, ig_l2 hg, ig_l3 hg, ig_l4 hg, ig_l5 hg, ig_l6 hg, ig_l7 hg, ig_l8 hg, ig_l9 hg, ig_l10 hg, ig_l12 hg, ig_r1 hg, ig_r2 hg, ig_r4 hg, ig_r5 hg, ig_r6 hg, ig_r7 hg, ig_r8 hg, ig_r9 hg, ig_r12 hg, ig_r14 hg, ig_r15 hg, ig_rw hg, rf_s, pushR_s, pushR_n, le4_0, le4_1, le4_2, le4_3, le4_4, isLong_n, isLong_i, isLong_r, isLong_f, if_true, if_false, not_true_eq_false, not_false_eq_true, isI_0, isI_9, isAr_0, isAr_1, isAr_2, isAr_9, okR_i, okR_0, okR_1, putI_0, putI_b0, putI_b1, nI_10, nI_00, Nat.reduceLT, Nat.reduceLeDiff, nI_add, upM_s, upI_s, pk_mul, nf_at, m, h16, e0, e1, e4, z, q0, q1, if_neg c0, if_neg c1, eI_10, Nat.reduceEqDiff]
  · rw [c] at e4 ⊢
    simp only [k46_0, k46_1, k46_2, k46_5, k46_8, k46_9, k46_12, k46_13, k46_14, k46_15, k46_18, k46_19, k46_20, k46_21, k46_24, k46_25, k46_26, k46_27, k46_30, k46_31, k46_34, k46_35, k46_36, k46_37, k46_38, k46_41, k46_42, k46_43, k46_44, k46_47, k46_48, k46_51, k46_52, k46_53, k46_56, k46_57, ig_t0 hg, ig_t1 hg, ig_t2 hg, ig_t3 hg, ig_t4 hg, ig_t5 hg, ig_t6 hg, ig_t7 hg, ig_t8 hg, ig_t9 hg, ig_t10 hg, ig_t11 hg, ig_t12 hg, ig_l1 hg, ig_l2 hg, ig_l3 hg, ig_l4 hg, ig_l5 hg, ig_l6 hg, ig_l7 hg, ig_l8 hg, ig_l9 hg, ig_l10 hg, ig_l12 hg, ig_r1 hg, ig_r2 hg, ig_r4 hg, ig_r5 hg, ig_r6 hg, ig_r7 hg, ig_r8 hg, ig_r9 hg, ig_r12 hg, ig_r14 hg, ig_r15 hg, ig_rw hg, rf_s, pushR_s, pushR_n, le4_0, le4_1, le4_2, le4_3, le4_4, isLong_n, isLong_i, isLong_r, isLong_f, if_true, if_false, not_true_eq_false, not_false_eq_true, isI_0, isI_9, isAr_0, isAr_1, isAr_2, isAr_9, okR_i, okR_0, okR_1, putI_0, putI_b0, putI_b1, nI_10, nI_00, Nat.reduceLT, Nat.reduceLeDiff, nI_add, upM_s, upI_s, pk_mul, nf_at, m, h16, e4, eI_10]
theorem c47 (hg : IsG σ g) (r : RG M g s) (i : Inv s) (Q : Po) : wp 47 0 [some (.ref g), none, none] [] σ M Q = Q (some (.int (nI (sumTo (opn s) (s 1))))) σ M := by
  have g1 := i.1.2.1
  simp only [k47_0, k47_1, k47_2, k47_3, rf_s, pushR_s, pushR_n, le4_0, le4_1, le4_2, le4_3, le4_4, isLong_n, isLong_i, isLong_r, isLong_f, if_true, if_false, not_true_eq_false, not_false_eq_true, isI_0, isI_9, isAr_0, isAr_1, isAr_2, isAr_9, okR_i, okR_0, okR_1, putI_0, putI_b0, putI_b1, nI_10, nI_00, Nat.reduceLT, Nat.reduceLeDiff, nI_add, upM_s, upI_s, pk_mul, nf_at]
  refine (wp_up (n := s 1) (fun k => [some (.ref g), some (.int (nI (sumTo (opn s) k))), some (.int (nI k))]) (fun _ => M) Q (fun k hk => ?_)).trans ?_
  · have e : nI k < nI (s 1) := nI_lt hk (by omega)
    have hc := (i.1.2.2 k hk).2.2.2.2.2.2.2
    have m := fun Q => c42 (Q := Q) hg r i hk
    rcases (show s (30 + 6 * k + 4) = 0 ∨ s (30 + 6 * k + 4) = 1 by omega) with h | h
    · rw [k47_4]
      simp only [k47_0, k47_1, k47_2, k47_3, k47_5, k47_6, k47_9, k47_12, k47_13, k47_14, k47_15, k47_18, k47_21, k47_22, k47_25, k47_26, k47_27, k47_28, k47_31, k47_34, k47_35, ig_t0 hg, ig_t1 hg, ig_t2 hg, ig_t3 hg, ig_t4 hg, ig_t5 hg, ig_t6 hg, ig_t7 hg, ig_t8 hg, ig_t9 hg, ig_t10 hg, ig_t11 hg, ig_t12 hg, ig_l1 hg, ig_l2 hg, ig_l3 hg, ig_l4 hg, ig_l5 hg, ig_l6 hg, ig_l7 hg, ig_l8 hg, ig_l9 hg, ig_l10 hg, ig_l12 hg, ig_r1 hg, ig_r2 hg, ig_r4 hg, ig_r5 hg, ig_r6 hg, ig_r7 hg, ig_r8 hg, ig_r9 hg, ig_r12 hg, ig_r14 hg, ig_r15 hg, ig_rw hg, rf_s, pushR_s, pushR_n, le4_0, le4_1, le4_2, le4_3, le4_4, isLong_n, isLong_i, isLong_r, isLong_f, if_true, if_false, not_true_eq_false, not_false_eq_true, isI_0, isI_9, isAr_0, isAr_1, isAr_2, isAr_9, okR_i, okR_0, okR_1, putI_0, putI_b0, putI_b1, nI_10, nI_00, Nat.reduceLT, Nat.reduceLeDiff, nI_add, upM_s, upI_s, pk_mul, nf_at, rg_nc r, e, m, h, Nat.reduceSub, sumTo, opn]
    · rw [k47_4]
      simp only [k47_0, k47_1, k47_2, k47_3, k47_5, k47_6, k47_9, k47_12, k47_13, k47_14, k47_15, k47_18, k47_21, k47_22, k47_25, k47_26, k47_27, k47_28, k47_31, k47_34, k47_35, ig_t0 hg, ig_t1 hg, ig_t2 hg, ig_t3 hg, ig_t4 hg, ig_t5 hg, ig_t6 hg, ig_t7 hg, ig_t8 hg, ig_t9 hg, ig_t10 hg, ig_t11 hg, ig_t12 hg, ig_l1 hg, ig_l2 hg, ig_l3 hg, ig_l4 hg, ig_l5 hg, ig_l6 hg, ig_l7 hg, ig_l8 hg, ig_l9 hg, ig_l10 hg, ig_l12 hg, ig_r1 hg, ig_r2 hg, ig_r4 hg, ig_r5 hg, ig_r6 hg, ig_r7 hg, ig_r8 hg, ig_r9 hg, ig_r12 hg, ig_r14 hg, ig_r15 hg, ig_rw hg, rf_s, pushR_s, pushR_n, le4_0, le4_1, le4_2, le4_3, le4_4, isLong_n, isLong_i, isLong_r, isLong_f, if_true, if_false, not_true_eq_false, not_false_eq_true, isI_0, isI_9, isAr_0, isAr_1, isAr_2, isAr_9, okR_i, okR_0, okR_1, putI_0, putI_b0, putI_b1, nI_10, nI_00, Nat.reduceLT, Nat.reduceLeDiff, nI_add, upM_s, upI_s, pk_mul, nf_at, rg_nc r, e, m, h, Nat.reduceSub, sumTo, opn]
  · have e : ¬ nI (s 1) < nI (s 1) := nI_nlt (Nat.le_refl _) (by omega)
    rw [k47_4]
    simp only [k47_0, k47_1, k47_2, k47_3, k47_5, k47_6, k47_9, k47_12, k47_13, k47_14, k47_15, k47_18, k47_21, k47_22, k47_25, k47_26, k47_27, k47_28, k47_31, k47_34, k47_35, ig_t0 hg, ig_t1 hg, ig_t2 hg, ig_t3 hg, ig_t4 hg, ig_t5 hg, ig_t6 hg, ig_t7 hg, ig_t8 hg, ig_t9 hg, ig_t10 hg, ig_t11 hg, ig_t12 hg, ig_l1 hg, ig_l2 hg, ig_l3 hg, ig_l4 hg, ig_l5 hg, ig_l6 hg, ig_l7 hg, ig_l8 hg, ig_l9 hg, ig_l10 hg, ig_l12 hg, ig_r1 hg, ig_r2 hg, ig_r4 hg, ig_r5 hg, ig_r6 hg, ig_r7 hg, ig_r8 hg, ig_r9 hg, ig_r12 hg, ig_r14 hg, ig_r15 hg, ig_rw hg, rf_s, pushR_s, pushR_n, le4_0, le4_1, le4_2, le4_3, le4_4, isLong_n, isLong_i, isLong_r, isLong_f, if_true, if_false, not_true_eq_false, not_false_eq_true, isI_0, isI_9, isAr_0, isAr_1, isAr_2, isAr_9, okR_i, okR_0, okR_1, putI_0, putI_b0, putI_b1, nI_10, nI_00, Nat.reduceLT, Nat.reduceLeDiff, nI_add, upM_s, upI_s, pk_mul, nf_at, rg_nc r, e]
theorem acr_le {k p : Nat} (i : Inv s) (hk : k < s 1) : acr s k p ≤ 10 := by
  obtain ⟨l0, l1⟩ := pOk10 i.1 hk
  exact acr_10 l0 l1
theorem eI_ne {n : Nat} (h : n ≤ 10) (h2 : n ≠ 10) : ¬ eI n = -1 := by
  rw [eI_lt (by omega)]
  exact ne_m1 (by omega)
theorem c48 (hg : IsG σ g) (r : RG M g s) (i : Inv s) {p : Nat} (hp : p < 10) (Q : Po) : wp 48 0 [some (.ref g), some (.int (nI p)), none, none] [] σ M Q = Q (some (.int (nI (sumTo (opa s p) (s 1))))) σ M := by
  have g1 := i.1.2.1
  simp only [k48_0, k48_1, k48_2, k48_3, rf_s, pushR_s, pushR_n, le4_0, le4_1, le4_2, le4_3, le4_4, isLong_n, isLong_i, isLong_r, isLong_f, if_true, if_false, not_true_eq_false, not_false_eq_true, isI_0, isI_9, isAr_0, isAr_1, isAr_2, isAr_9, okR_i, okR_0, okR_1, putI_0, putI_b0, putI_b1, nI_10, nI_00, Nat.reduceLT, Nat.reduceLeDiff, nI_add, upM_s, upI_s, pk_mul, nf_at]
  refine (wp_up (n := s 1) (fun k => [some (.ref g), some (.int (nI p)), some (.int (nI (sumTo (opa s p) k))), some (.int (nI k))]) (fun _ => M) Q (fun k hk => ?_)).trans ?_
  · have e : nI k < nI (s 1) := nI_lt hk (by omega)
    have m := fun Q => c46 (Q := Q) hg r i hk hp
    have hl := acr_le (p := p) i hk
    rw [k48_4]
    by_cases c : acr s k p = 10
    · simp only [k48_0, k48_1, k48_2, k48_3, k48_5, k48_6, k48_9, k48_12, k48_13, k48_14, k48_15, k48_16, k48_19, k48_20, k48_23, k48_24, k48_27, k48_28, k48_29, k48_30, k48_33, k48_36, k48_37, ig_t0 hg, ig_t1 hg, ig_t2 hg, ig_t3 hg, ig_t4 hg, ig_t5 hg, ig_t6 hg, ig_t7 hg, ig_t8 hg, ig_t9 hg, ig_t10 hg, ig_t11 hg, ig_t12 hg, ig_l1 hg, ig_l2 hg, ig_l3 hg, ig_l4 hg, ig_l5 hg, ig_l6 hg, ig_l7 hg, ig_l8 hg, ig_l9 hg, ig_l10 hg, ig_l12 hg, ig_r1 hg, ig_r2 hg, ig_r4 hg, ig_r5 hg, ig_r6 hg, ig_r7 hg, ig_r8 hg, ig_r9 hg, ig_r12 hg, ig_r14 hg, ig_r15 hg, ig_rw hg, rf_s, pushR_s, pushR_n, le4_0, le4_1, le4_2, le4_3, le4_4, isLong_n, isLong_i, isLong_r, isLong_f, if_true, if_false, not_true_eq_false, not_false_eq_true, isI_0, isI_9, isAr_0, isAr_1, isAr_2, isAr_9, okR_i, okR_0, okR_1, putI_0, putI_b0, putI_b1, nI_10, nI_00, Nat.reduceLT, Nat.reduceLeDiff, nI_add, upM_s, upI_s, pk_mul, nf_at, rg_nc r, e, m, c, eI_10, sumTo, opa]
    · have z := eI_ne hl c
      simp only [k48_0, k48_1, k48_2, k48_3, k48_5, k48_6, k48_9, k48_12, k48_13, k48_14, k48_15, k48_16, k48_19, k48_20, k48_23, k48_24, k48_27, k48_28, k48_29, k48_30, k48_33, k48_36, k48_37, ig_t0 hg, ig_t1 hg, ig_t2 hg, ig_t3 hg, ig_t4 hg, ig_t5 hg, ig_t6 hg, ig_t7 hg, ig_t8 hg, ig_t9 hg, ig_t10 hg, ig_t11 hg, ig_t12 hg, ig_l1 hg, ig_l2 hg, ig_l3 hg, ig_l4 hg, ig_l5 hg, ig_l6 hg, ig_l7 hg, ig_l8 hg, ig_l9 hg, ig_l10 hg, ig_l12 hg, ig_r1 hg, ig_r2 hg, ig_r4 hg, ig_r5 hg, ig_r6 hg, ig_r7 hg, ig_r8 hg, ig_r9 hg, ig_r12 hg, ig_r14 hg, ig_r15 hg, ig_rw hg, rf_s, pushR_s, pushR_n, le4_0, le4_1, le4_2, le4_3, le4_4, isLong_n, isLong_i, isLong_r, isLong_f, if_true, if_false, not_true_eq_false, not_false_eq_true, isI_0, isI_9, isAr_0, isAr_1, isAr_2, isAr_9, okR_i, okR_0, okR_1, putI_0, putI_b0, putI_b1, nI_10, nI_00, Nat.reduceLT, Nat.reduceLeDiff, nI_add, upM_s, upI_s, pk_mul, nf_at, rg_nc r, e, m, c, z, sumTo, opa]
  · have e : ¬ nI (s 1) < nI (s 1) := nI_nlt (Nat.le_refl _) (by omega)
    rw [k48_4]
    simp only [k48_0, k48_1, k48_2, k48_3, k48_5, k48_6, k48_9, k48_12, k48_13, k48_14, k48_15, k48_16, k48_19, k48_20, k48_23, k48_24, k48_27, k48_28, k48_29, k48_30, k48_33, k48_36, k48_37, ig_t0 hg, ig_t1 hg, ig_t2 hg, ig_t3 hg, ig_t4 hg, ig_t5 hg, ig_t6 hg, ig_t7 hg, ig_t8 hg, ig_t9 hg, ig_t10 hg, ig_t11 hg, ig_t12 hg, ig_l1 hg, ig_l2 hg, ig_l3 hg, ig_l4 hg, ig_l5 hg, ig_l6 hg, ig_l7 hg, ig_l8 hg, ig_l9 hg, ig_l10 hg, ig_l12 hg, ig_r1 hg, ig_r2 hg, ig_r4 hg, ig_r5 hg, ig_r6 hg, ig_r7 hg, ig_r8 hg, ig_r9 hg, ig_r12 hg, ig_r14 hg, ig_r15 hg, ig_rw hg, rf_s, pushR_s, pushR_n, le4_0, le4_1, le4_2, le4_3, le4_4, isLong_n, isLong_i, isLong_r, isLong_f, if_true, if_false, not_true_eq_false, not_false_eq_true, isI_0, isI_9, isAr_0, isAr_1, isAr_2, isAr_9, okR_i, okR_0, okR_1, putI_0, putI_b0, putI_b1, nI_10, nI_00, Nat.reduceLT, Nat.reduceLeDiff, nI_add, upM_s, upI_s, pk_mul, nf_at, rg_nc r, e]
theorem c49 (hg : IsG σ g) (r : RG M g s) (i : Inv s) {p : Nat} (hp : p < 10) (Q : Po) : wp 49 0 [some (.ref g), some (.int (nI p)), none, none] [] σ M Q = Q (some (.int (nI (sumTo (ow s p) (s 1))))) σ M := by
  have g1 := i.1.2.1
  simp only [k49_0, k49_1, k49_2, k49_3, rf_s, pushR_s, pushR_n, le4_0, le4_1, le4_2, le4_3, le4_4, isLong_n, isLong_i, isLong_r, isLong_f, if_true, if_false, not_true_eq_false, not_false_eq_true, isI_0, isI_9, isAr_0, isAr_1, isAr_2, isAr_9, okR_i, okR_0, okR_1, putI_0, putI_b0, putI_b1, nI_10, nI_00, Nat.reduceLT, Nat.reduceLeDiff, nI_add, upM_s, upI_s, pk_mul, nf_at]
  refine (wp_up (n := s 1) (fun k => [some (.ref g), some (.int (nI p)), some (.int (nI (sumTo (ow s p) k))), some (.int (nI k))]) (fun _ => M) Q (fun k hk => ?_)).trans ?_
  · have e : nI k < nI (s 1) := nI_lt hk (by omega)
    have m := fun Q => c46 (Q := Q) hg r i hk hp
    have m2 := fun Q => c45 (Q := Q) hg r i hk
    have hl := acr_le (p := p) i hk
    rw [k49_4]
    by_cases c : acr s k p = 10
    · simp only [k49_0, k49_1, k49_2, k49_3, k49_5, k49_6, k49_9, k49_12, k49_13, k49_14, k49_15, k49_16, k49_19, k49_20, k49_23, k49_24, k49_27, k49_28, k49_29, k49_32, k49_33, k49_34, k49_37, k49_40, k49_41, ig_t0 hg, ig_t1 hg, ig_t2 hg, ig_t3 hg, ig_t4 hg, ig_t5 hg, ig_t6 hg, ig_t7 hg, ig_t8 hg, ig_t9 hg, ig_t10 hg, ig_t11 hg, ig_t12 hg, ig_l1 hg, ig_l2 hg, ig_l3 hg, ig_l4 hg, ig_l5 hg, ig_l6 hg, ig_l7 hg, ig_l8 hg, ig_l9 hg, ig_l10 hg, ig_l12 hg, ig_r1 hg, ig_r2 hg, ig_r4 hg, ig_r5 hg, ig_r6 hg, ig_r7 hg, ig_r8 hg, ig_r9 hg, ig_r12 hg, ig_r14 hg, ig_r15 hg, ig_rw hg, rf_s, pushR_s, pushR_n, le4_0, le4_1, le4_2, le4_3, le4_4, isLong_n, isLong_i, isLong_r, isLong_f, if_true, if_false, not_true_eq_false, not_false_eq_true, isI_0, isI_9, isAr_0, isAr_1, isAr_2, isAr_9, okR_i, okR_0, okR_1, putI_0, putI_b0, putI_b1, nI_10, nI_00, Nat.reduceLT, Nat.reduceLeDiff, nI_add, upM_s, upI_s, pk_mul, nf_at, rg_nc r, e, m, c, eI_10, sumTo, ow]
    · have z := eI_ne hl c
      simp only [k49_0, k49_1, k49_2, k49_3, k49_5, k49_6, k49_9, k49_12, k49_13, k49_14, k49_15, k49_16, k49_19, k49_20, k49_23, k49_24, k49_27, k49_28, k49_29, k49_32, k49_33, k49_34, k49_37, k49_40, k49_41, ig_t0 hg, ig_t1 hg, ig_t2 hg, ig_t3 hg, ig_t4 hg, ig_t5 hg, ig_t6 hg, ig_t7 hg, ig_t8 hg, ig_t9 hg, ig_t10 hg, ig_t11 hg, ig_t12 hg, ig_l1 hg, ig_l2 hg, ig_l3 hg, ig_l4 hg, ig_l5 hg, ig_l6 hg, ig_l7 hg, ig_l8 hg, ig_l9 hg, ig_l10 hg, ig_l12 hg, ig_r1 hg, ig_r2 hg, ig_r4 hg, ig_r5 hg, ig_r6 hg, ig_r7 hg, ig_r8 hg, ig_r9 hg, ig_r12 hg, ig_r14 hg, ig_r15 hg, ig_rw hg, rf_s, pushR_s, pushR_n, le4_0, le4_1, le4_2, le4_3, le4_4, isLong_n, isLong_i, isLong_r, isLong_f, if_true, if_false, not_true_eq_false, not_false_eq_true, isI_0, isI_9, isAr_0, isAr_1, isAr_2, isAr_9, okR_i, okR_0, okR_1, putI_0, putI_b0, putI_b1, nI_10, nI_00, Nat.reduceLT, Nat.reduceLeDiff, nI_add, upM_s, upI_s, pk_mul, nf_at, rg_nc r, e, m, m2, c, z, sumTo, ow]
  · have e : ¬ nI (s 1) < nI (s 1) := nI_nlt (Nat.le_refl _) (by omega)
    rw [k49_4]
    simp only [k49_0, k49_1, k49_2, k49_3, k49_5, k49_6, k49_9, k49_12, k49_13, k49_14, k49_15, k49_16, k49_19, k49_20, k49_23, k49_24, k49_27, k49_28, k49_29, k49_32, k49_33, k49_34, k49_37, k49_40, k49_41, ig_t0 hg, ig_t1 hg, ig_t2 hg, ig_t3 hg, ig_t4 hg, ig_t5 hg, ig_t6 hg, ig_t7 hg, ig_t8 hg, ig_t9 hg, ig_t10 hg, ig_t11 hg, ig_t12 hg, ig_l1 hg, ig_l2 hg, ig_l3 hg, ig_l4 hg, ig_l5 hg, ig_l6 hg, ig_l7 hg, ig_l8 hg, ig_l9 hg, ig_l10 hg, ig_l12 hg, ig_r1 hg, ig_r2 hg, ig_r4 hg, ig_r5 hg, ig_r6 hg, ig_r7 hg, ig_r8 hg, ig_r9 hg, ig_r12 hg, ig_r14 hg, ig_r15 hg, ig_rw hg, rf_s, pushR_s, pushR_n, le4_0, le4_1, le4_2, le4_3, le4_4, isLong_n, isLong_i, isLong_r, isLong_f, if_true, if_false, not_true_eq_false, not_false_eq_true, isI_0, isI_9, isAr_0, isAr_1, isAr_2, isAr_9, okR_i, okR_0, okR_1, putI_0, putI_b0, putI_b1, nI_10, nI_00, Nat.reduceLT, Nat.reduceLeDiff, nI_add, upM_s, upI_s, pk_mul, nf_at, rg_nc r, e]
theorem c50 (hg : IsG σ g) (r : RG M g s) (g1 : s 1 ≤ 16) (Q : Po) : wp 50 0 [some (.ref g), none, none] [] σ M Q = Q (some (.int (nI (sumTo (trl s) (s 1))))) σ M := by
  simp only [k50_0, k50_1, k50_2, k50_3, rf_s, pushR_s, pushR_n, le4_0, le4_1, le4_2, le4_3, le4_4, isLong_n, isLong_i, isLong_r, isLong_f, if_true, if_false, not_true_eq_false, not_false_eq_true, isI_0, isI_9, isAr_0, isAr_1, isAr_2, isAr_9, okR_i, okR_0, okR_1, putI_0, putI_b0, putI_b1, nI_10, nI_00, Nat.reduceLT, Nat.reduceLeDiff, nI_add, upM_s, upI_s, pk_mul, nf_at]
  refine (wp_up (n := s 1) (fun k => [some (.ref g), some (.int (nI (sumTo (trl s) k))), some (.int (nI k))]) (fun _ => M) Q (fun k hk => ?_)).trans ?_
  · have e : nI k < nI (s 1) := nI_lt hk (by omega)
    have h16 : k < 16 := by omega
    have e2 : nI k < nI 16 := nI_lt h16 (by omega)
    have e3 := rg_trl r k h16
    rw [k50_4]
    simp only [k50_0, k50_1, k50_2, k50_3, k50_5, k50_6, k50_9, k50_12, k50_13, k50_14, k50_17, k50_18, k50_21, k50_22, k50_23, k50_26, k50_27, k50_28, k50_29, k50_30, k50_33, k50_36, k50_37, ig_t0 hg, ig_t1 hg, ig_t2 hg, ig_t3 hg, ig_t4 hg, ig_t5 hg, ig_t6 hg, ig_t7 hg, ig_t8 hg, ig_t9 hg, ig_t10 hg, ig_t11 hg, ig_t12 hg, ig_l1 hg, ig_l2 hg, ig_l3 hg, ig_l4 hg, ig_l5 hg, ig_l6 hg, ig_l7 hg, ig_l8 hg, ig_l9 hg, ig_l10 hg, ig_l12 hg, ig_r1 hg, ig_r2 hg, ig_r4 hg, ig_r5 hg, ig_r6 hg, ig_r7 hg, ig_r8 hg, ig_r9 hg, ig_r12 hg, ig_r14 hg, ig_r15 hg, ig_rw hg, rf_s, pushR_s, pushR_n, le4_0, le4_1, le4_2, le4_3, le4_4, isLong_n, isLong_i, isLong_r, isLong_f, if_true, if_false, not_true_eq_false, not_false_eq_true, isI_0, isI_9, isAr_0, isAr_1, isAr_2, isAr_9, okR_i, okR_0, okR_1, putI_0, putI_b0, putI_b1, nI_10, nI_00, Nat.reduceLT, Nat.reduceLeDiff, nI_add, upM_s, upI_s, pk_mul, nf_at, rg_nc r, e, e2, h16, e3, sumTo, trl]
  · have e : ¬ nI (s 1) < nI (s 1) := nI_nlt (Nat.le_refl _) (by omega)
    rw [k50_4]
    simp only [k50_0, k50_1, k50_2, k50_3, k50_5, k50_6, k50_9, k50_12, k50_13, k50_14, k50_17, k50_18, k50_21, k50_22, k50_23, k50_26, k50_27, k50_28, k50_29, k50_30, k50_33, k50_36, k50_37, ig_t0 hg, ig_t1 hg, ig_t2 hg, ig_t3 hg, ig_t4 hg, ig_t5 hg, ig_t6 hg, ig_t7 hg, ig_t8 hg, ig_t9 hg, ig_t10 hg, ig_t11 hg, ig_t12 hg, ig_l1 hg, ig_l2 hg, ig_l3 hg, ig_l4 hg, ig_l5 hg, ig_l6 hg, ig_l7 hg, ig_l8 hg, ig_l9 hg, ig_l10 hg, ig_l12 hg, ig_r1 hg, ig_r2 hg, ig_r4 hg, ig_r5 hg, ig_r6 hg, ig_r7 hg, ig_r8 hg, ig_r9 hg, ig_r12 hg, ig_r14 hg, ig_r15 hg, ig_rw hg, rf_s, pushR_s, pushR_n, le4_0, le4_1, le4_2, le4_3, le4_4, isLong_n, isLong_i, isLong_r, isLong_f, if_true, if_false, not_true_eq_false, not_false_eq_true, isI_0, isI_9, isAr_0, isAr_1, isAr_2, isAr_9, okR_i, okR_0, okR_1, putI_0, putI_b0, putI_b1, nI_10, nI_00, Nat.reduceLT, Nat.reduceLeDiff, nI_add, upM_s, upI_s, pk_mul, nf_at, rg_nc r, e]
theorem c51 (hg : IsG σ g) (r : RG M g s) (i : Inv s) (Q : Po) : wp 51 0 [some (.ref g), none, none] [] σ M Q = Q (some (.int (nI (gts s (s 1))))) σ M := by
  have g1 := i.1.2.1
  simp only [k51_0, k51_1, k51_2, k51_3, rf_s, pushR_s, pushR_n, le4_0, le4_1, le4_2, le4_3, le4_4, isLong_n, isLong_i, isLong_r, isLong_f, if_true, if_false, not_true_eq_false, not_false_eq_true, isI_0, isI_9, isAr_0, isAr_1, isAr_2, isAr_9, okR_i, okR_0, okR_1, putI_0, putI_b0, putI_b1, nI_10, nI_00, Nat.reduceLT, Nat.reduceLeDiff, nI_add, upM_s, upI_s, pk_mul, nf_at]
  refine (wp_up (n := s 1) (fun k => [some (.ref g), some (.int (nI (gts s k))), some (.int (nI k))]) (fun _ => M) Q (fun k hk => ?_)).trans ?_
  · have e : nI k < nI (s 1) := nI_lt hk (by omega)
    have h16 : k < 16 := by omega
    have e2 : nI k < nI 16 := nI_lt h16 (by omega)
    have e3 := rg_trl r k h16
    have p := i.1.2.2 k hk
    unfold pOk at p
    have b := gts_le i.1 k (by omega)
    rw [k51_4]
    by_cases c : gts s k < s (30 + 6 * k + 3)
    · have z : nI (gts s k) < nI (s (30 + 6 * k + 3)) := nI_lt c (by omega)
      have eo : gts s (k + 1) = s (30 + 6 * k + 3) := if_pos c
      simp only [k51_0, k51_1, k51_2, k51_3, k51_5, k51_6, k51_9, k51_12, k51_13, k51_14, k51_17, k51_18, k51_21, k51_22, k51_23, k51_26, k51_27, k51_28, k51_31, k51_32, k51_35, k51_38, k51_39, ig_t0 hg, ig_t1 hg, ig_t2 hg, ig_t3 hg, ig_t4 hg, ig_t5 hg, ig_t6 hg, ig_t7 hg, ig_t8 hg, ig_t9 hg, ig_t10 hg, ig_t11 hg, ig_t12 hg, ig_l1 hg, ig_l2 hg, ig_l3 hg, ig_l4 hg, ig_l5 hg, ig_l6 hg, ig_l7 hg, ig_l8 hg, ig_l9 hg, ig_l10 hg, ig_l12 hg, ig_r1 hg, ig_r2 hg, ig_r4 hg, ig_r5 hg, ig_r6 hg, ig_r7 hg, ig_r8 hg, ig_r9 hg, ig_r12 hg, ig_r14 hg, ig_r15 hg, ig_rw hg, rf_s, pushR_s, pushR_n, le4_0, le4_1, le4_2, le4_3, le4_4, isLong_n, isLong_i, isLong_r, isLong_f, if_true, if_false, not_true_eq_false, not_false_eq_true, isI_0, isI_9, isAr_0, isAr_1, isAr_2, isAr_9, okR_i, okR_0, okR_1, putI_0, putI_b0, putI_b1, nI_10, nI_00, Nat.reduceLT, Nat.reduceLeDiff, nI_add, upM_s, upI_s, pk_mul, nf_at, rg_nc r, e, e2, h16, e3, z, eo]
    · have z : ¬ nI (gts s k) < nI (s (30 + 6 * k + 3)) := nI_nlt (by omega) (by omega)
      have eo : gts s (k + 1) = gts s k := if_neg c
      simp only [k51_0, k51_1, k51_2, k51_3, k51_5, k51_6, k51_9, k51_12, k51_13, k51_14, k51_17, k51_18, k51_21, k51_22, k51_23, k51_26, k51_27, k51_28, k51_31, k51_32, k51_35, k51_38, k51_39, ig_t0 hg, ig_t1 hg, ig_t2 hg, ig_t3 hg, ig_t4 hg, ig_t5 hg, ig_t6 hg, ig_t7 hg, ig_t8 hg, ig_t9 hg, ig_t10 hg, ig_t11 hg, ig_t12 hg, ig_l1 hg, ig_l2 hg, ig_l3 hg, ig_l4 hg, ig_l5 hg, ig_l6 hg, ig_l7 hg, ig_l8 hg, ig_l9 hg, ig_l10 hg, ig_l12 hg, ig_r1 hg, ig_r2 hg, ig_r4 hg, ig_r5 hg, ig_r6 hg, ig_r7 hg, ig_r8 hg, ig_r9 hg, ig_r12 hg, ig_r14 hg, ig_r15 hg, ig_rw hg, rf_s, pushR_s, pushR_n, le4_0, le4_1, le4_2, le4_3, le4_4, isLong_n, isLong_i, isLong_r, isLong_f, if_true, if_false, not_true_eq_false, not_false_eq_true, isI_0, isI_9, isAr_0, isAr_1, isAr_2, isAr_9, okR_i, okR_0, okR_1, putI_0, putI_b0, putI_b1, nI_10, nI_00, Nat.reduceLT, Nat.reduceLeDiff, nI_add, upM_s, upI_s, pk_mul, nf_at, rg_nc r, e, e2, h16, e3, z, eo]
  · have e : ¬ nI (s 1) < nI (s 1) := nI_nlt (Nat.le_refl _) (by omega)
    rw [k51_4]
    simp only [k51_0, k51_1, k51_2, k51_3, k51_5, k51_6, k51_9, k51_12, k51_13, k51_14, k51_17, k51_18, k51_21, k51_22, k51_23, k51_26, k51_27, k51_28, k51_31, k51_32, k51_35, k51_38, k51_39, ig_t0 hg, ig_t1 hg, ig_t2 hg, ig_t3 hg, ig_t4 hg, ig_t5 hg, ig_t6 hg, ig_t7 hg, ig_t8 hg, ig_t9 hg, ig_t10 hg, ig_t11 hg, ig_t12 hg, ig_l1 hg, ig_l2 hg, ig_l3 hg, ig_l4 hg, ig_l5 hg, ig_l6 hg, ig_l7 hg, ig_l8 hg, ig_l9 hg, ig_l10 hg, ig_l12 hg, ig_r1 hg, ig_r2 hg, ig_r4 hg, ig_r5 hg, ig_r6 hg, ig_r7 hg, ig_r8 hg, ig_r9 hg, ig_r12 hg, ig_r14 hg, ig_r15 hg, ig_rw hg, rf_s, pushR_s, pushR_n, le4_0, le4_1, le4_2, le4_3, le4_4, isLong_n, isLong_i, isLong_r, isLong_f, if_true, if_false, not_true_eq_false, not_false_eq_true, isI_0, isI_9, isAr_0, isAr_1, isAr_2, isAr_9, okR_i, okR_0, okR_1, putI_0, putI_b0, putI_b1, nI_10, nI_00, Nat.reduceLT, Nat.reduceLeDiff, nI_add, upM_s, upI_s, pk_mul, nf_at, rg_nc r, e]
end GND
