section CHG
variable {σ : Sg} {M : Mem} {I : Nat → Nat} {s s' : Nat → Nat} {H : Nat → Nat → Nat} {n len : Nat} {T : Nat → Nat} {r : Int32}
theorem prep (L : ClL σ M I s H n len T) : ∃ N, (∀ Q, wp 64 0 [some (.ref 27), some (.ref 1)] [] σ M Q = Q none σ N) ∧ RG N (I n) s ∧ FG M N (I n) ∧ RG N 1 s ∧ (∃ V, RW N 95 V) ∧ IsC σ N := by
  obtain ⟨hk, hh, hc, R, i, ⟨h1, hn⟩, hH, hT, ⟨V, v⟩, h101⟩ := L
  obtain ⟨g1, g2, g3⟩ := ih_g hh n (by omega)
  obtain ⟨N, a1, a2, a3⟩ := c64 hk hh R i.1 h1 hn
  exact ⟨N, a1, a2, a3, RG_o R i.1.2.2.2.2.2 (fun o h1 h2 => a3 o (by omega)), ⟨V, RW_fr v (a3 95 (by omega)) (a3 96 (by omega))⟩, IsC_fr hc (a3 1001 (by omega)) (a3 1002 (by omega))⟩
theorem rw_g {N P : Mem} (h : ∃ V, RW N 95 V) (f : FG N P 1) : ∃ V, RW P 95 V := by
  obtain ⟨V, v⟩ := h
  exact ⟨V, RW_fr v (f 95 (by omega)) (f 96 (by omega))⟩
theorem c2 (L : ClL σ M I s H n len T) (o : oPlace s r s') : ∃ τ M', (∀ Q, wp 2 0 [some (.ref 0)] [] σ M Q = Q (some (.int r)) τ M') ∧ CC σ M τ M' s s' H n len T r := by
  obtain ⟨N, a1, a2, a3, a4, a5, a6⟩ := prep L
  have L0 := L
  obtain ⟨hk, hh, hc, R, i, h1, hH, hT, h95, h101⟩ := L
  obtain ⟨P, b1, b2, b3⟩ := c52 hk.2.1 a4 i.1 o
  obtain ⟨τ, M', d1, d2⟩ := chgC L0 a2 a3 b2 (FC_g b3) (rw_g a5 b3) ⟨(oPlace_inv i.1 o).1, oPlace_x i.2 o⟩ (r := r) (oPlace_inv i.1 o).2
  refine ⟨τ, M', fun Q => ?_, d2⟩
  simp only [k2_0, k2_1, k2_4, k2_5, k2_8, k2_11, k2_12, k2_15, k2_16, k2_19, k2_22, k2_25, ia_t hk.1, ia_r0 hk.1, ia_r1 hk.1, ia_r2 hk.1, ia_r3 hk.1, ia_r4 hk.1, ia_r5 hk.1, ih_t27 hh, ig_t0 hk.2.1, ig_t1 hk.2.1, ig_t2 hk.2.1, ig_t3 hk.2.1, ig_t4 hk.2.1, ig_t5 hk.2.1, ig_t6 hk.2.1, ig_t7 hk.2.1, ig_t8 hk.2.1, ig_t9 hk.2.1, ig_t10 hk.2.1, ig_t11 hk.2.1, ig_t12 hk.2.1, ig_l1 hk.2.1, ig_l2 hk.2.1, ig_l3 hk.2.1, ig_l4 hk.2.1, ig_l5 hk.2.1, ig_l6 hk.2.1, ig_l7 hk.2.1, ig_l8 hk.2.1, ig_l9 hk.2.1, ig_l10 hk.2.1, ig_l12 hk.2.1, ig_r1 hk.2.1, ig_r2 hk.2.1, ig_r4 hk.2.1, ig_r5 hk.2.1, ig_r6 hk.2.1, ig_r7 hk.2.1, ig_r8 hk.2.1, ig_r9 hk.2.1, ig_r12 hk.2.1, ig_r14 hk.2.1, ig_r15 hk.2.1, ig_rw hk.2.1, rf_s, pushR_s, pushR_n, le4_0, le4_1, le4_2, le4_3, le4_4, isLong_n, isLong_i, isLong_r, isLong_f, if_true, if_false, not_true_eq_false, not_false_eq_true, isI_0, isI_9, isAr_0, isAr_1, isAr_2, isAr_9, okR_i, okR_0, okR_1, putI_0, putI_b0, putI_b1, nI_10, nI_00, Nat.reduceLT, Nat.reduceLeDiff, nI_add, upM_s, upI_s, pk_mul, nf_at, a1, b1, d1]
theorem c3 (L : ClL σ M I s H n len T) {x y z : Int32} (o : oPath s x y z r s') : ∃ τ M', (∀ Q, wp 3 0 [some (.ref 0), some (.int x), some (.int y), some (.int z)] [] σ M Q = Q (some (.int r)) τ M') ∧ CC σ M τ M' s s' H n len T r := by
  obtain ⟨N, a1, a2, a3, a4, a5, a6⟩ := prep L
  have L0 := L
  obtain ⟨hk, hh, hc, R, i, h1, hH, hT, h95, h101⟩ := L
  obtain ⟨P, b1, b2, b3⟩ := c53 hk.2.1 a4 i.1 i.2 o
  obtain ⟨τ, M', d1, d2⟩ := chgC L0 a2 a3 b2 (FC_g b3) (rw_g a5 b3) ⟨(oPath_inv i.1 o).1, oPath_x i.2 o⟩ (r := r) (oPath_inv i.1 o).2
  refine ⟨τ, M', fun Q => ?_, d2⟩
  simp only [k3_0, k3_1, k3_4, k3_5, k3_8, k3_11, k3_12, k3_15, k3_16, k3_19, k3_20, k3_21, k3_22, k3_25, k3_28, ia_t hk.1, ia_r0 hk.1, ia_r1 hk.1, ia_r2 hk.1, ia_r3 hk.1, ia_r4 hk.1, ia_r5 hk.1, ih_t27 hh, ig_t0 hk.2.1, ig_t1 hk.2.1, ig_t2 hk.2.1, ig_t3 hk.2.1, ig_t4 hk.2.1, ig_t5 hk.2.1, ig_t6 hk.2.1, ig_t7 hk.2.1, ig_t8 hk.2.1, ig_t9 hk.2.1, ig_t10 hk.2.1, ig_t11 hk.2.1, ig_t12 hk.2.1, ig_l1 hk.2.1, ig_l2 hk.2.1, ig_l3 hk.2.1, ig_l4 hk.2.1, ig_l5 hk.2.1, ig_l6 hk.2.1, ig_l7 hk.2.1, ig_l8 hk.2.1, ig_l9 hk.2.1, ig_l10 hk.2.1, ig_l12 hk.2.1, ig_r1 hk.2.1, ig_r2 hk.2.1, ig_r4 hk.2.1, ig_r5 hk.2.1, ig_r6 hk.2.1, ig_r7 hk.2.1, ig_r8 hk.2.1, ig_r9 hk.2.1, ig_r12 hk.2.1, ig_r14 hk.2.1, ig_r15 hk.2.1, ig_rw hk.2.1, rf_s, pushR_s, pushR_n, le4_0, le4_1, le4_2, le4_3, le4_4, isLong_n, isLong_i, isLong_r, isLong_f, if_true, if_false, not_true_eq_false, not_false_eq_true, isI_0, isI_9, isAr_0, isAr_1, isAr_2, isAr_9, okR_i, okR_0, okR_1, putI_0, putI_b0, putI_b1, nI_10, nI_00, Nat.reduceLT, Nat.reduceLeDiff, nI_add, upM_s, upI_s, pk_mul, nf_at, a1, b1, d1]
theorem c4 (L : ClL σ M I s H n len T) {x : Int32} {c : Nat} (hc1 : c ≤ 1) (o : oClose s x c r s') : ∃ τ M', (∀ Q, wp 4 0 [some (.ref 0), some (.int x), some (.int (nI c))] [] σ M Q = Q (some (.int r)) τ M') ∧ CC σ M τ M' s s' H n len T r := by
  obtain ⟨N, a1, a2, a3, a4, a5, a6⟩ := prep L
  have L0 := L
  obtain ⟨hk, hh, hc, R, i, h1, hH, hT, h95, h101⟩ := L
  obtain ⟨P, b1, b2, b3⟩ := c54 hk.2.1 a4 i.1 hc1 o
  obtain ⟨τ, M', d1, d2⟩ := chgC L0 a2 a3 b2 (FC_g b3) (rw_g a5 b3) ⟨(oClose_inv i.1 hc1 o).1, oClose_x i.2 o⟩ (r := r) (oClose_inv i.1 hc1 o).2
  refine ⟨τ, M', fun Q => ?_, d2⟩
  simp only [k4_0, k4_1, k4_4, k4_5, k4_8, k4_11, k4_12, k4_15, k4_16, k4_19, k4_20, k4_21, k4_24, k4_27, ia_t hk.1, ia_r0 hk.1, ia_r1 hk.1, ia_r2 hk.1, ia_r3 hk.1, ia_r4 hk.1, ia_r5 hk.1, ih_t27 hh, ig_t0 hk.2.1, ig_t1 hk.2.1, ig_t2 hk.2.1, ig_t3 hk.2.1, ig_t4 hk.2.1, ig_t5 hk.2.1, ig_t6 hk.2.1, ig_t7 hk.2.1, ig_t8 hk.2.1, ig_t9 hk.2.1, ig_t10 hk.2.1, ig_t11 hk.2.1, ig_t12 hk.2.1, ig_l1 hk.2.1, ig_l2 hk.2.1, ig_l3 hk.2.1, ig_l4 hk.2.1, ig_l5 hk.2.1, ig_l6 hk.2.1, ig_l7 hk.2.1, ig_l8 hk.2.1, ig_l9 hk.2.1, ig_l10 hk.2.1, ig_l12 hk.2.1, ig_r1 hk.2.1, ig_r2 hk.2.1, ig_r4 hk.2.1, ig_r5 hk.2.1, ig_r6 hk.2.1, ig_r7 hk.2.1, ig_r8 hk.2.1, ig_r9 hk.2.1, ig_r12 hk.2.1, ig_r14 hk.2.1, ig_r15 hk.2.1, ig_rw hk.2.1, rf_s, pushR_s, pushR_n, le4_0, le4_1, le4_2, le4_3, le4_4, isLong_n, isLong_i, isLong_r, isLong_f, if_true, if_false, not_true_eq_false, not_false_eq_true, isI_0, isI_9, isAr_0, isAr_1, isAr_2, isAr_9, okR_i, okR_0, okR_1, putI_0, putI_b0, putI_b1, nI_10, nI_00, Nat.reduceLT, Nat.reduceLeDiff, nI_add, upM_s, upI_s, pk_mul, nf_at, a1, b1, d1]
theorem c5 (L : ClL σ M I s H n len T) {x : Int32} (o : oFood s x r s') : ∃ τ M', (∀ Q, wp 5 0 [some (.ref 0), some (.int x)] [] σ M Q = Q (some (.int r)) τ M') ∧ CC σ M τ M' s s' H n len T r := by
  obtain ⟨N, a1, a2, a3, a4, a5, a6⟩ := prep L
  have L0 := L
  obtain ⟨hk, hh, hc, R, i, h1, hH, hT, h95, h101⟩ := L
  obtain ⟨P, b1, b2, b3⟩ := c55 hk.2.1 a4 i.1 o
  obtain ⟨τ, M', d1, d2⟩ := chgC L0 a2 a3 b2 (FC_g b3) (rw_g a5 b3) ⟨(oFood_inv i.1 o).1, oFood_x i.2 o⟩ (r := r) (oFood_inv i.1 o).2
  refine ⟨τ, M', fun Q => ?_, d2⟩
  simp only [k5_0, k5_1, k5_4, k5_5, k5_8, k5_11, k5_12, k5_15, k5_16, k5_19, k5_20, k5_23, k5_26, ia_t hk.1, ia_r0 hk.1, ia_r1 hk.1, ia_r2 hk.1, ia_r3 hk.1, ia_r4 hk.1, ia_r5 hk.1, ih_t27 hh, ig_t0 hk.2.1, ig_t1 hk.2.1, ig_t2 hk.2.1, ig_t3 hk.2.1, ig_t4 hk.2.1, ig_t5 hk.2.1, ig_t6 hk.2.1, ig_t7 hk.2.1, ig_t8 hk.2.1, ig_t9 hk.2.1, ig_t10 hk.2.1, ig_t11 hk.2.1, ig_t12 hk.2.1, ig_l1 hk.2.1, ig_l2 hk.2.1, ig_l3 hk.2.1, ig_l4 hk.2.1, ig_l5 hk.2.1, ig_l6 hk.2.1, ig_l7 hk.2.1, ig_l8 hk.2.1, ig_l9 hk.2.1, ig_l10 hk.2.1, ig_l12 hk.2.1, ig_r1 hk.2.1, ig_r2 hk.2.1, ig_r4 hk.2.1, ig_r5 hk.2.1, ig_r6 hk.2.1, ig_r7 hk.2.1, ig_r8 hk.2.1, ig_r9 hk.2.1, ig_r12 hk.2.1, ig_r14 hk.2.1, ig_r15 hk.2.1, ig_rw hk.2.1, rf_s, pushR_s, pushR_n, le4_0, le4_1, le4_2, le4_3, le4_4, isLong_n, isLong_i, isLong_r, isLong_f, if_true, if_false, not_true_eq_false, not_false_eq_true, isI_0, isI_9, isAr_0, isAr_1, isAr_2, isAr_9, okR_i, okR_0, okR_1, putI_0, putI_b0, putI_b1, nI_10, nI_00, Nat.reduceLT, Nat.reduceLeDiff, nI_add, upM_s, upI_s, pk_mul, nf_at, a1, b1, d1]
theorem c6 (L : ClL σ M I s H n len T) {x : Int32} (o : oLap s x r s') : ∃ τ M', (∀ Q, wp 6 0 [some (.ref 0), some (.int x)] [] σ M Q = Q (some (.int r)) τ M') ∧ CC σ M τ M' s s' H n len T r := by
  obtain ⟨N, a1, a2, a3, a4, a5, a6⟩ := prep L
  have L0 := L
  obtain ⟨hk, hh, hc, R, i, h1, hH, hT, h95, h101⟩ := L
  obtain ⟨V, v⟩ := a5
  obtain ⟨P, b1, b2, b3, b4⟩ := c30 hk.2.2.2.1 hk.2.1 (by omega) i.1 v a4 o
  obtain ⟨τ, M', d1, d2⟩ := chgC L0 a2 a3 b2 b4 b3 ⟨(oLap_inv i.1 o).1, oLap_x i.1 i.2 o⟩ (r := r) (oLap_inv i.1 o).2
  refine ⟨τ, M', fun Q => ?_, d2⟩
  simp only [k6_0, k6_1, k6_4, k6_5, k6_8, k6_11, k6_12, k6_15, k6_16, k6_19, k6_20, k6_23, k6_24, k6_27, k6_30, ia_t hk.1, ia_r0 hk.1, ia_r1 hk.1, ia_r2 hk.1, ia_r3 hk.1, ia_r4 hk.1, ia_r5 hk.1, ih_t27 hh, ig_t0 hk.2.1, ig_t1 hk.2.1, ig_t2 hk.2.1, ig_t3 hk.2.1, ig_t4 hk.2.1, ig_t5 hk.2.1, ig_t6 hk.2.1, ig_t7 hk.2.1, ig_t8 hk.2.1, ig_t9 hk.2.1, ig_t10 hk.2.1, ig_t11 hk.2.1, ig_t12 hk.2.1, ig_l1 hk.2.1, ig_l2 hk.2.1, ig_l3 hk.2.1, ig_l4 hk.2.1, ig_l5 hk.2.1, ig_l6 hk.2.1, ig_l7 hk.2.1, ig_l8 hk.2.1, ig_l9 hk.2.1, ig_l10 hk.2.1, ig_l12 hk.2.1, ig_r1 hk.2.1, ig_r2 hk.2.1, ig_r4 hk.2.1, ig_r5 hk.2.1, ig_r6 hk.2.1, ig_r7 hk.2.1, ig_r8 hk.2.1, ig_r9 hk.2.1, ig_r12 hk.2.1, ig_r14 hk.2.1, ig_r15 hk.2.1, ig_rw hk.2.1, io_t94 hk.2.2.2.1, io_r0 hk.2.2.2.1, io_r1 hk.2.2.2.1, io_r2 hk.2.2.2.1, io_t97 hk.2.2.2.1, io_l97 hk.2.2.2.1, io_t98 hk.2.2.2.1, io_l98 hk.2.2.2.1, iw_t0 (io_w hk.2.2.2.1), iw_t1 (io_w hk.2.2.2.1), iw_l1 (io_w hk.2.2.2.1), iw_r0 (io_w hk.2.2.2.1), rf_s, pushR_s, pushR_n, le4_0, le4_1, le4_2, le4_3, le4_4, isLong_n, isLong_i, isLong_r, isLong_f, if_true, if_false, not_true_eq_false, not_false_eq_true, isI_0, isI_9, isAr_0, isAr_1, isAr_2, isAr_9, okR_i, okR_0, okR_1, putI_0, putI_b0, putI_b1, nI_10, nI_00, Nat.reduceLT, Nat.reduceLeDiff, nI_add, upM_s, upI_s, pk_mul, nf_at, a1, b1, d1]
theorem c7 (L : ClL σ M I s H n len T) (o : oForget s r s') : ∃ τ M', (∀ Q, wp 7 0 [some (.ref 0)] [] σ M Q = Q (some (.int r)) τ M') ∧ CC σ M τ M' s s' H n len T r := by
  obtain ⟨N, a1, a2, a3, a4, a5, a6⟩ := prep L
  have L0 := L
  obtain ⟨hk, hh, hc, R, i, h1, hH, hT, h95, h101⟩ := L
  obtain ⟨P, b1, b2, b3⟩ := c56 hk.2.1 a4 i.1 o
  obtain ⟨τ, M', d1, d2⟩ := chgC L0 a2 a3 b2 (FC_g b3) (rw_g a5 b3) ⟨(oForget_inv i.1 o).1, oForget_x i.2 o⟩ (r := r) (Or.inr (oForget_inv i.1 o).2.1)
  refine ⟨τ, M', fun Q => ?_, d2⟩
  simp only [k7_0, k7_1, k7_4, k7_5, k7_8, k7_11, k7_12, k7_15, k7_16, k7_19, k7_22, k7_25, ia_t hk.1, ia_r0 hk.1, ia_r1 hk.1, ia_r2 hk.1, ia_r3 hk.1, ia_r4 hk.1, ia_r5 hk.1, ih_t27 hh, ig_t0 hk.2.1, ig_t1 hk.2.1, ig_t2 hk.2.1, ig_t3 hk.2.1, ig_t4 hk.2.1, ig_t5 hk.2.1, ig_t6 hk.2.1, ig_t7 hk.2.1, ig_t8 hk.2.1, ig_t9 hk.2.1, ig_t10 hk.2.1, ig_t11 hk.2.1, ig_t12 hk.2.1, ig_l1 hk.2.1, ig_l2 hk.2.1, ig_l3 hk.2.1, ig_l4 hk.2.1, ig_l5 hk.2.1, ig_l6 hk.2.1, ig_l7 hk.2.1, ig_l8 hk.2.1, ig_l9 hk.2.1, ig_l10 hk.2.1, ig_l12 hk.2.1, ig_r1 hk.2.1, ig_r2 hk.2.1, ig_r4 hk.2.1, ig_r5 hk.2.1, ig_r6 hk.2.1, ig_r7 hk.2.1, ig_r8 hk.2.1, ig_r9 hk.2.1, ig_r12 hk.2.1, ig_r14 hk.2.1, ig_r15 hk.2.1, ig_rw hk.2.1, rf_s, pushR_s, pushR_n, le4_0, le4_1, le4_2, le4_3, le4_4, isLong_n, isLong_i, isLong_r, isLong_f, if_true, if_false, not_true_eq_false, not_false_eq_true, isI_0, isI_9, isAr_0, isAr_1, isAr_2, isAr_9, okR_i, okR_0, okR_1, putI_0, putI_b0, putI_b1, nI_10, nI_00, Nat.reduceLT, Nat.reduceLeDiff, nI_add, upM_s, upI_s, pk_mul, nf_at, a1, b1, d1]
theorem c8 (L : ClL σ M I s H n len T) {x y : Int32} (o : oSet s x y r s') : ∃ τ M', (∀ Q, wp 8 0 [some (.ref 0), some (.int x), some (.int y)] [] σ M Q = Q (some (.int r)) τ M') ∧ CC σ M τ M' s s' H n len T r := by
  obtain ⟨N, a1, a2, a3, a4, a5, a6⟩ := prep L
  have L0 := L
  obtain ⟨hk, hh, hc, R, i, h1, hH, hT, h95, h101⟩ := L
  obtain ⟨P, b1, b2, b3⟩ := c57 hk.2.1 a6 a4 i.1 o
  obtain ⟨τ, M', d1, d2⟩ := chgC L0 a2 a3 b2 (FC_g b3) (rw_g a5 b3) ⟨(oSet_inv i.1 o).1, oSet_x i.2 o⟩ (r := r) (oSet_inv i.1 o).2
  refine ⟨τ, M', fun Q => ?_, d2⟩
  simp only [k8_0, k8_1, k8_4, k8_5, k8_8, k8_11, k8_12, k8_15, k8_16, k8_19, k8_20, k8_21, k8_24, k8_27, ia_t hk.1, ia_r0 hk.1, ia_r1 hk.1, ia_r2 hk.1, ia_r3 hk.1, ia_r4 hk.1, ia_r5 hk.1, ih_t27 hh, ig_t0 hk.2.1, ig_t1 hk.2.1, ig_t2 hk.2.1, ig_t3 hk.2.1, ig_t4 hk.2.1, ig_t5 hk.2.1, ig_t6 hk.2.1, ig_t7 hk.2.1, ig_t8 hk.2.1, ig_t9 hk.2.1, ig_t10 hk.2.1, ig_t11 hk.2.1, ig_t12 hk.2.1, ig_l1 hk.2.1, ig_l2 hk.2.1, ig_l3 hk.2.1, ig_l4 hk.2.1, ig_l5 hk.2.1, ig_l6 hk.2.1, ig_l7 hk.2.1, ig_l8 hk.2.1, ig_l9 hk.2.1, ig_l10 hk.2.1, ig_l12 hk.2.1, ig_r1 hk.2.1, ig_r2 hk.2.1, ig_r4 hk.2.1, ig_r5 hk.2.1, ig_r6 hk.2.1, ig_r7 hk.2.1, ig_r8 hk.2.1, ig_r9 hk.2.1, ig_r12 hk.2.1, ig_r14 hk.2.1, ig_r15 hk.2.1, ig_rw hk.2.1, rf_s, pushR_s, pushR_n, le4_0, le4_1, le4_2, le4_3, le4_4, isLong_n, isLong_i, isLong_r, isLong_f, if_true, if_false, not_true_eq_false, not_false_eq_true, isI_0, isI_9, isAr_0, isAr_1, isAr_2, isAr_9, okR_i, okR_0, okR_1, putI_0, putI_b0, putI_b1, nI_10, nI_00, Nat.reduceLT, Nat.reduceLeDiff, nI_add, upM_s, upI_s, pk_mul, nf_at, a1, b1, d1]
end CHG
