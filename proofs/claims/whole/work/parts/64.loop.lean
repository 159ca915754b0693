/-! the law's loop -/
section LOOP
variable {L : Nat} {xs : Nat → Int32}
/-- what holds at the loop's head -/
def LK (L : Nat) (xs : Nat → Int32) (σ : Sg) (M : Mem) : Prop := IsM σ ∧ St σ M ∧ sT σ 0 = 16 ∧ sT σ 1003 = 9 ∧ sL σ 1003 = L ∧ M 1003 = xs ∧ sN σ ≤ 600000 ∧ sS σ ≤ 7302250
theorem LK_s {σ τ : Sg} {M M2 : Mem} (k : LK L xs σ M) (h : St τ M2) (sm : Sm σ τ) (e : M2 1003 = M 1003) : LK L xs τ M2 := by
  obtain ⟨a, b, b0, c, d, e2, f, g⟩ := k
  exact ⟨IsM_sm sm a, h, by rw [sm.1]; exact b0, by rw [sm.1]; exact c, by rw [sm.2.1]; exact d, e.trans e2, by rw [sm.2.2.1]; exact f, by rw [sm.2.2.2.1]; exact g⟩
def Done (L : Nat) (xs : Nat → Int32) (σ : Sg) (M : Mem) (i : Nat) : Prop := ∃ τ M2, LK L xs τ M2 ∧ ∀ Q, wp 0 18 [some (.ref 1003), some (.ref 0), some (.ref 106), some (.int (nI i))] [] σ M Q = wp 0 18 [some (.ref 1003), some (.ref 0), some (.ref 106), some (.int (nI (i + 4)))] [] τ M2 Q
theorem st_0 {σ : Sg} {M : Mem} (k : LK L xs σ M) {i : Nat} (hi : i + 4 ≤ L) (hl : L ≤ 2048) (hc : xs i &&& nI 31 = nI 0) : Done L xs σ M i := by
  have k0 := k
  obtain ⟨hm, h, h0, t, l, e, _, _⟩ := k
  have hL : L < 1000000 := by omega
  have z : ¬ nI L - nI 4 < nI i := by
    rw [pk_sub (by omega)]
    exact nI_nlt (by omega) (by omega)
  have i0 : i < L := by omega
  have i1 : i + 1 < L := by omega
  have i2 : i + 2 < L := by omega
  have i3 : i + 3 < L := by omega
  obtain ⟨r, τ, M1, M2, a1, a2, b1, b2, b3, b4⟩ := p_0 hm h
  have t' : sT τ 1003 = 9 := by rw [b2.1]; exact t
  have l' : sL τ 1003 = L := by rw [b2.2.1]; exact l
  have e' : M1 1003 = xs := b3.trans e
  have m' : sT τ 106 = 17 := by rw [b2.1]; exact im_t106 hm
  refine ⟨τ, M2, LK_s k0 b1 b2 b4, fun Q => ?_⟩
  rw [k0_18]
  simp only [k0_19, k0_20, k0_21, k0_22, k0_23, k0_26, k0_27, k0_28, k0_29, k0_31, k0_32, k0_136, k0_137, k0_140, k0_141, k0_144, k0_147, k0_148, k0_678, k0_681, rf_s, pushR_s, pushR_n, le4_0, le4_1, le4_2, le4_3, le4_4, isLong_n, isLong_i, isLong_r, isLong_f, if_true, if_false, not_true_eq_false, not_false_eq_true, isI_0, isI_9, isAr_0, isAr_1, isAr_2, isAr_9, okR_i, okR_0, okR_1, putI_0, putI_b0, putI_b1, nI_10, nI_00, Nat.reduceLT, Nat.reduceLeDiff, nI_add, upM_s, upI_s, pk_mul, nf_at, t, l, e, h0, hL, z, i0, i1, i2, i3, hc, nI_lit, Nat.reduceEqDiff, a1, t', l', e', m', a2]
theorem st_1 {σ : Sg} {M : Mem} (k : LK L xs σ M) {i : Nat} (hi : i + 4 ≤ L) (hl : L ≤ 2048) (hc : xs i &&& nI 31 = nI 1) : Done L xs σ M i := by
  have k0 := k
  obtain ⟨hm, h, h0, t, l, e, _, _⟩ := k
  have hL : L < 1000000 := by omega
  have z : ¬ nI L - nI 4 < nI i := by
    rw [pk_sub (by omega)]
    exact nI_nlt (by omega) (by omega)
  have i0 : i < L := by omega
  have i1 : i + 1 < L := by omega
  have i2 : i + 2 < L := by omega
  have i3 : i + 3 < L := by omega
  obtain ⟨r, τ, M1, M2, a1, a2, b1, b2, b3, b4⟩ := p_1 hm h (xs (i + 1)) (xs (i + 2)) (xs (i + 3))
  have t' : sT τ 1003 = 9 := by rw [b2.1]; exact t
  have l' : sL τ 1003 = L := by rw [b2.2.1]; exact l
  have e' : M1 1003 = xs := b3.trans e
  have m' : sT τ 106 = 17 := by rw [b2.1]; exact im_t106 hm
  refine ⟨τ, M2, LK_s k0 b1 b2 b4, fun Q => ?_⟩
  rw [k0_18]
  simp only [k0_19, k0_20, k0_21, k0_22, k0_23, k0_26, k0_27, k0_28, k0_29, k0_31, k0_32, k0_149, k0_150, k0_151, k0_152, k0_153, k0_154, k0_155, k0_156, k0_157, k0_158, k0_159, k0_160, k0_161, k0_162, k0_163, k0_164, k0_165, k0_168, k0_169, k0_170, k0_171, k0_172, k0_173, k0_174, k0_175, k0_176, k0_177, k0_178, k0_179, k0_180, k0_181, k0_182, k0_183, k0_184, k0_187, k0_190, k0_191, k0_678, k0_681, rf_s, pushR_s, pushR_n, le4_0, le4_1, le4_2, le4_3, le4_4, isLong_n, isLong_i, isLong_r, isLong_f, if_true, if_false, not_true_eq_false, not_false_eq_true, isI_0, isI_9, isAr_0, isAr_1, isAr_2, isAr_9, okR_i, okR_0, okR_1, putI_0, putI_b0, putI_b1, nI_10, nI_00, Nat.reduceLT, Nat.reduceLeDiff, nI_add, upM_s, upI_s, pk_mul, nf_at, t, l, e, h0, hL, z, i0, i1, i2, i3, hc, nI_lit, Nat.reduceEqDiff, a1, t', l', e', m', a2]
theorem st_2 {σ : Sg} {M : Mem} (k : LK L xs σ M) {i : Nat} (hi : i + 4 ≤ L) (hl : L ≤ 2048) (hc : xs i &&& nI 31 = nI 2) : Done L xs σ M i := by
  have k0 := k
  obtain ⟨hm, h, h0, t, l, e, _, _⟩ := k
  have hL : L < 1000000 := by omega
  have z : ¬ nI L - nI 4 < nI i := by
    rw [pk_sub (by omega)]
    exact nI_nlt (by omega) (by omega)
  have i0 : i < L := by omega
  have i1 : i + 1 < L := by omega
  have i2 : i + 2 < L := by omega
  have i3 : i + 3 < L := by omega
  by_cases c : xs (i + 2) = 0
  · obtain ⟨r, τ, M1, M2, a1, a2, b1, b2, b3, b4⟩ := p_2 hm h (xs (i + 1)) (c := 0) (by omega)
    have t' : sT τ 1003 = 9 := by rw [b2.1]; exact t
    have l' : sL τ 1003 = L := by rw [b2.2.1]; exact l
    have e' : M1 1003 = xs := b3.trans e
    have m' : sT τ 106 = 17 := by rw [b2.1]; exact im_t106 hm
    refine ⟨τ, M2, LK_s k0 b1 b2 b4, fun Q => ?_⟩
    rw [k0_18]
    simp only [k0_19, k0_20, k0_21, k0_22, k0_23, k0_26, k0_27, k0_28, k0_29, k0_31, k0_32, k0_192, k0_193, k0_194, k0_195, k0_196, k0_197, k0_198, k0_199, k0_200, k0_201, k0_202, k0_203, k0_206, k0_207, k0_210, k0_211, k0_214, k0_215, k0_216, k0_217, k0_218, k0_219, k0_220, k0_221, k0_222, k0_223, k0_224, k0_225, k0_228, k0_229, k0_232, k0_233, k0_236, k0_239, k0_240, k0_678, k0_681, rf_s, pushR_s, pushR_n, le4_0, le4_1, le4_2, le4_3, le4_4, isLong_n, isLong_i, isLong_r, isLong_f, if_true, if_false, not_true_eq_false, not_false_eq_true, isI_0, isI_9, isAr_0, isAr_1, isAr_2, isAr_9, okR_i, okR_0, okR_1, putI_0, putI_b0, putI_b1, nI_10, nI_00, Nat.reduceLT, Nat.reduceLeDiff, nI_add, upM_s, upI_s, pk_mul, nf_at, t, l, e, h0, hL, z, i0, i1, i2, i3, hc, nI_lit, Nat.reduceEqDiff, c, a1, t', l', e', m', a2]
  · obtain ⟨r, τ, M1, M2, a1, a2, b1, b2, b3, b4⟩ := p_2 hm h (xs (i + 1)) (c := 1) (by omega)
    have t' : sT τ 1003 = 9 := by rw [b2.1]; exact t
    have l' : sL τ 1003 = L := by rw [b2.2.1]; exact l
    have e' : M1 1003 = xs := b3.trans e
    have m' : sT τ 106 = 17 := by rw [b2.1]; exact im_t106 hm
    refine ⟨τ, M2, LK_s k0 b1 b2 b4, fun Q => ?_⟩
    rw [k0_18]
    simp only [k0_19, k0_20, k0_21, k0_22, k0_23, k0_26, k0_27, k0_28, k0_29, k0_31, k0_32, k0_192, k0_193, k0_194, k0_195, k0_196, k0_197, k0_198, k0_199, k0_200, k0_201, k0_202, k0_203, k0_206, k0_207, k0_210, k0_211, k0_214, k0_215, k0_216, k0_217, k0_218, k0_219, k0_220, k0_221, k0_222, k0_223, k0_224, k0_225, k0_228, k0_229, k0_232, k0_233, k0_236, k0_239, k0_240, k0_678, k0_681, rf_s, pushR_s, pushR_n, le4_0, le4_1, le4_2, le4_3, le4_4, isLong_n, isLong_i, isLong_r, isLong_f, if_true, if_false, not_true_eq_false, not_false_eq_true, isI_0, isI_9, isAr_0, isAr_1, isAr_2, isAr_9, okR_i, okR_0, okR_1, putI_0, putI_b0, putI_b1, nI_10, nI_00, Nat.reduceLT, Nat.reduceLeDiff, nI_add, upM_s, upI_s, pk_mul, nf_at, t, l, e, h0, hL, z, i0, i1, i2, i3, hc, nI_lit, Nat.reduceEqDiff, c, a1, t', l', e', m', a2]
theorem st_3 {σ : Sg} {M : Mem} (k : LK L xs σ M) {i : Nat} (hi : i + 4 ≤ L) (hl : L ≤ 2048) (hc : xs i &&& nI 31 = nI 3) : Done L xs σ M i := by
  have k0 := k
  obtain ⟨hm, h, h0, t, l, e, _, _⟩ := k
  have hL : L < 1000000 := by omega
  have z : ¬ nI L - nI 4 < nI i := by
    rw [pk_sub (by omega)]
    exact nI_nlt (by omega) (by omega)
  have i0 : i < L := by omega
  have i1 : i + 1 < L := by omega
  have i2 : i + 2 < L := by omega
  have i3 : i + 3 < L := by omega
  obtain ⟨r, τ, M1, M2, a1, a2, b1, b2, b3, b4⟩ := p_3 hm h (xs (i + 1))
  have t' : sT τ 1003 = 9 := by rw [b2.1]; exact t
  have l' : sL τ 1003 = L := by rw [b2.2.1]; exact l
  have e' : M1 1003 = xs := b3.trans e
  have m' : sT τ 106 = 17 := by rw [b2.1]; exact im_t106 hm
  refine ⟨τ, M2, LK_s k0 b1 b2 b4, fun Q => ?_⟩
  rw [k0_18]
  simp only [k0_19, k0_20, k0_21, k0_22, k0_23, k0_26, k0_27, k0_28, k0_29, k0_31, k0_32, k0_241, k0_242, k0_243, k0_244, k0_245, k0_246, k0_247, k0_250, k0_251, k0_252, k0_253, k0_254, k0_255, k0_256, k0_259, k0_262, k0_263, k0_678, k0_681, rf_s, pushR_s, pushR_n, le4_0, le4_1, le4_2, le4_3, le4_4, isLong_n, isLong_i, isLong_r, isLong_f, if_true, if_false, not_true_eq_false, not_false_eq_true, isI_0, isI_9, isAr_0, isAr_1, isAr_2, isAr_9, okR_i, okR_0, okR_1, putI_0, putI_b0, putI_b1, nI_10, nI_00, Nat.reduceLT, Nat.reduceLeDiff, nI_add, upM_s, upI_s, pk_mul, nf_at, t, l, e, h0, hL, z, i0, i1, i2, i3, hc, nI_lit, Nat.reduceEqDiff, a1, t', l', e', m', a2]
theorem st_4 {σ : Sg} {M : Mem} (k : LK L xs σ M) {i : Nat} (hi : i + 4 ≤ L) (hl : L ≤ 2048) (hc : xs i &&& nI 31 = nI 4) : Done L xs σ M i := by
  have k0 := k
  obtain ⟨hm, h, h0, t, l, e, _, _⟩ := k
  have hL : L < 1000000 := by omega
  have z : ¬ nI L - nI 4 < nI i := by
    rw [pk_sub (by omega)]
    exact nI_nlt (by omega) (by omega)
  have i0 : i < L := by omega
  have i1 : i + 1 < L := by omega
  have i2 : i + 2 < L := by omega
  have i3 : i + 3 < L := by omega
  obtain ⟨r, τ, M1, M2, a1, a2, b1, b2, b3, b4⟩ := p_4 hm h (xs (i + 1))
  have t' : sT τ 1003 = 9 := by rw [b2.1]; exact t
  have l' : sL τ 1003 = L := by rw [b2.2.1]; exact l
  have e' : M1 1003 = xs := b3.trans e
  have m' : sT τ 106 = 17 := by rw [b2.1]; exact im_t106 hm
  refine ⟨τ, M2, LK_s k0 b1 b2 b4, fun Q => ?_⟩
  rw [k0_18]
  simp only [k0_19, k0_20, k0_21, k0_22, k0_23, k0_26, k0_27, k0_28, k0_29, k0_31, k0_32, k0_264, k0_265, k0_266, k0_267, k0_268, k0_269, k0_270, k0_273, k0_274, k0_275, k0_276, k0_277, k0_278, k0_279, k0_282, k0_285, k0_286, k0_678, k0_681, rf_s, pushR_s, pushR_n, le4_0, le4_1, le4_2, le4_3, le4_4, isLong_n, isLong_i, isLong_r, isLong_f, if_true, if_false, not_true_eq_false, not_false_eq_true, isI_0, isI_9, isAr_0, isAr_1, isAr_2, isAr_9, okR_i, okR_0, okR_1, putI_0, putI_b0, putI_b1, nI_10, nI_00, Nat.reduceLT, Nat.reduceLeDiff, nI_add, upM_s, upI_s, pk_mul, nf_at, t, l, e, h0, hL, z, i0, i1, i2, i3, hc, nI_lit, Nat.reduceEqDiff, a1, t', l', e', m', a2]
theorem st_5 {σ : Sg} {M : Mem} (k : LK L xs σ M) {i : Nat} (hi : i + 4 ≤ L) (hl : L ≤ 2048) (hc : xs i &&& nI 31 = nI 5) : Done L xs σ M i := by
  have k0 := k
  obtain ⟨hm, h, h0, t, l, e, _, _⟩ := k
  have hL : L < 1000000 := by omega
  have z : ¬ nI L - nI 4 < nI i := by
    rw [pk_sub (by omega)]
    exact nI_nlt (by omega) (by omega)
  have i0 : i < L := by omega
  have i1 : i + 1 < L := by omega
  have i2 : i + 2 < L := by omega
  have i3 : i + 3 < L := by omega
  obtain ⟨r, τ, M1, M2, a1, a2, b1, b2, b3, b4⟩ := p_5 hm h
  have t' : sT τ 1003 = 9 := by rw [b2.1]; exact t
  have l' : sL τ 1003 = L := by rw [b2.2.1]; exact l
  have e' : M1 1003 = xs := b3.trans e
  have m' : sT τ 106 = 17 := by rw [b2.1]; exact im_t106 hm
  refine ⟨τ, M2, LK_s k0 b1 b2 b4, fun Q => ?_⟩
  rw [k0_18]
  simp only [k0_19, k0_20, k0_21, k0_22, k0_23, k0_26, k0_27, k0_28, k0_29, k0_31, k0_32, k0_287, k0_288, k0_291, k0_292, k0_295, k0_298, k0_299, k0_678, k0_681, rf_s, pushR_s, pushR_n, le4_0, le4_1, le4_2, le4_3, le4_4, isLong_n, isLong_i, isLong_r, isLong_f, if_true, if_false, not_true_eq_false, not_false_eq_true, isI_0, isI_9, isAr_0, isAr_1, isAr_2, isAr_9, okR_i, okR_0, okR_1, putI_0, putI_b0, putI_b1, nI_10, nI_00, Nat.reduceLT, Nat.reduceLeDiff, nI_add, upM_s, upI_s, pk_mul, nf_at, t, l, e, h0, hL, z, i0, i1, i2, i3, hc, nI_lit, Nat.reduceEqDiff, a1, t', l', e', m', a2]
theorem st_6 {σ : Sg} {M : Mem} (k : LK L xs σ M) {i : Nat} (hi : i + 4 ≤ L) (hl : L ≤ 2048) (hc : xs i &&& nI 31 = nI 6) : Done L xs σ M i := by
  have k0 := k
  obtain ⟨hm, h, h0, t, l, e, _, _⟩ := k
  have hL : L < 1000000 := by omega
  have z : ¬ nI L - nI 4 < nI i := by
    rw [pk_sub (by omega)]
    exact nI_nlt (by omega) (by omega)
  have i0 : i < L := by omega
  have i1 : i + 1 < L := by omega
  have i2 : i + 2 < L := by omega
  have i3 : i + 3 < L := by omega
  obtain ⟨r, τ, M1, M2, a1, a2, b1, b2, b3, b4⟩ := p_6 hm h (xs (i + 1)) (xs (i + 2))
  have t' : sT τ 1003 = 9 := by rw [b2.1]; exact t
  have l' : sL τ 1003 = L := by rw [b2.2.1]; exact l
  have e' : M1 1003 = xs := b3.trans e
  have m' : sT τ 106 = 17 := by rw [b2.1]; exact im_t106 hm
  refine ⟨τ, M2, LK_s k0 b1 b2 b4, fun Q => ?_⟩
  rw [k0_18]
  simp only [k0_19, k0_20, k0_21, k0_22, k0_23, k0_26, k0_27, k0_28, k0_29, k0_31, k0_32, k0_300, k0_301, k0_302, k0_303, k0_304, k0_305, k0_306, k0_307, k0_308, k0_309, k0_310, k0_311, k0_314, k0_315, k0_316, k0_317, k0_318, k0_319, k0_320, k0_321, k0_322, k0_323, k0_324, k0_325, k0_328, k0_331, k0_332, k0_678, k0_681, rf_s, pushR_s, pushR_n, le4_0, le4_1, le4_2, le4_3, le4_4, isLong_n, isLong_i, isLong_r, isLong_f, if_true, if_false, not_true_eq_false, not_false_eq_true, isI_0, isI_9, isAr_0, isAr_1, isAr_2, isAr_9, okR_i, okR_0, okR_1, putI_0, putI_b0, putI_b1, nI_10, nI_00, Nat.reduceLT, Nat.reduceLeDiff, nI_add, upM_s, upI_s, pk_mul, nf_at, t, l, e, h0, hL, z, i0, i1, i2, i3, hc, nI_lit, Nat.reduceEqDiff, a1, t', l', e', m', a2]
theorem st_7 {σ : Sg} {M : Mem} (k : LK L xs σ M) {i : Nat} (hi : i + 4 ≤ L) (hl : L ≤ 2048) (hc : xs i &&& nI 31 = nI 7) : Done L xs σ M i := by
  have k0 := k
  obtain ⟨hm, h, h0, t, l, e, _, _⟩ := k
  have hL : L < 1000000 := by omega
  have z : ¬ nI L - nI 4 < nI i := by
    rw [pk_sub (by omega)]
    exact nI_nlt (by omega) (by omega)
  have i0 : i < L := by omega
  have i1 : i + 1 < L := by omega
  have i2 : i + 2 < L := by omega
  have i3 : i + 3 < L := by omega
  obtain ⟨r, τ, M1, M2, a1, a2, b1, b2, b3, b4⟩ := p_7 hm h (xs (i + 1)) (xs (i + 2))
  have t' : sT τ 1003 = 9 := by rw [b2.1]; exact t
  have l' : sL τ 1003 = L := by rw [b2.2.1]; exact l
  have e' : M1 1003 = xs := b3.trans e
  have m' : sT τ 106 = 17 := by rw [b2.1]; exact im_t106 hm
  refine ⟨τ, M2, LK_s k0 b1 b2 b4, fun Q => ?_⟩
  rw [k0_18]
  simp only [k0_19, k0_20, k0_21, k0_22, k0_23, k0_26, k0_27, k0_28, k0_29, k0_31, k0_32, k0_333, k0_334, k0_335, k0_336, k0_337, k0_338, k0_339, k0_340, k0_341, k0_342, k0_343, k0_344, k0_347, k0_348, k0_349, k0_350, k0_351, k0_352, k0_353, k0_354, k0_355, k0_356, k0_357, k0_358, k0_361, k0_364, k0_365, k0_678, k0_681, rf_s, pushR_s, pushR_n, le4_0, le4_1, le4_2, le4_3, le4_4, isLong_n, isLong_i, isLong_r, isLong_f, if_true, if_false, not_true_eq_false, not_false_eq_true, isI_0, isI_9, isAr_0, isAr_1, isAr_2, isAr_9, okR_i, okR_0, okR_1, putI_0, putI_b0, putI_b1, nI_10, nI_00, Nat.reduceLT, Nat.reduceLeDiff, nI_add, upM_s, upI_s, pk_mul, nf_at, t, l, e, h0, hL, z, i0, i1, i2, i3, hc, nI_lit, Nat.reduceEqDiff, a1, t', l', e', m', a2]
theorem st_8 {σ : Sg} {M : Mem} (k : LK L xs σ M) {i : Nat} (hi : i + 4 ≤ L) (hl : L ≤ 2048) (hc : xs i &&& nI 31 = nI 8) : Done L xs σ M i := by
  have k0 := k
  obtain ⟨hm, h, h0, t, l, e, _, _⟩ := k
  have hL : L < 1000000 := by omega
  have z : ¬ nI L - nI 4 < nI i := by
    rw [pk_sub (by omega)]
    exact nI_nlt (by omega) (by omega)
  have i0 : i < L := by omega
  have i1 : i + 1 < L := by omega
  have i2 : i + 2 < L := by omega
  have i3 : i + 3 < L := by omega
  obtain ⟨r, τ, M1, M2, a1, a2, b1, b2, b3, b4⟩ := p_8 hm h (xs (i + 1)) (xs (i + 2))
  have t' : sT τ 1003 = 9 := by rw [b2.1]; exact t
  have l' : sL τ 1003 = L := by rw [b2.2.1]; exact l
  have e' : M1 1003 = xs := b3.trans e
  have m' : sT τ 106 = 17 := by rw [b2.1]; exact im_t106 hm
  refine ⟨τ, M2, LK_s k0 b1 b2 b4, fun Q => ?_⟩
  rw [k0_18]
  simp only [k0_19, k0_20, k0_21, k0_22, k0_23, k0_26, k0_27, k0_28, k0_29, k0_31, k0_32, k0_366, k0_367, k0_368, k0_369, k0_370, k0_371, k0_372, k0_373, k0_374, k0_375, k0_376, k0_377, k0_380, k0_381, k0_382, k0_383, k0_384, k0_385, k0_386, k0_387, k0_388, k0_389, k0_390, k0_391, k0_394, k0_397, k0_398, k0_678, k0_681, rf_s, pushR_s, pushR_n, le4_0, le4_1, le4_2, le4_3, le4_4, isLong_n, isLong_i, isLong_r, isLong_f, if_true, if_false, not_true_eq_false, not_false_eq_true, isI_0, isI_9, isAr_0, isAr_1, isAr_2, isAr_9, okR_i, okR_0, okR_1, putI_0, putI_b0, putI_b1, nI_10, nI_00, Nat.reduceLT, Nat.reduceLeDiff, nI_add, upM_s, upI_s, pk_mul, nf_at, t, l, e, h0, hL, z, i0, i1, i2, i3, hc, nI_lit, Nat.reduceEqDiff, a1, t', l', e', m', a2]
theorem st_9 {σ : Sg} {M : Mem} (k : LK L xs σ M) {i : Nat} (hi : i + 4 ≤ L) (hl : L ≤ 2048) (hc : xs i &&& nI 31 = nI 9) : Done L xs σ M i := by
  have k0 := k
  obtain ⟨hm, h, h0, t, l, e, _, _⟩ := k
  have hL : L < 1000000 := by omega
  have z : ¬ nI L - nI 4 < nI i := by
    rw [pk_sub (by omega)]
    exact nI_nlt (by omega) (by omega)
  have i0 : i < L := by omega
  have i1 : i + 1 < L := by omega
  have i2 : i + 2 < L := by omega
  have i3 : i + 3 < L := by omega
  obtain ⟨r, τ, M1, M2, a1, a2, b1, b2, b3, b4⟩ := p_9 hm h (xs (i + 1))
  have t' : sT τ 1003 = 9 := by rw [b2.1]; exact t
  have l' : sL τ 1003 = L := by rw [b2.2.1]; exact l
  have e' : M1 1003 = xs := b3.trans e
  have m' : sT τ 106 = 17 := by rw [b2.1]; exact im_t106 hm
  refine ⟨τ, M2, LK_s k0 b1 b2 b4, fun Q => ?_⟩
  rw [k0_18]
  simp only [k0_19, k0_20, k0_21, k0_22, k0_23, k0_26, k0_27, k0_28, k0_29, k0_31, k0_32, k0_399, k0_400, k0_401, k0_402, k0_403, k0_404, k0_405, k0_408, k0_409, k0_410, k0_411, k0_412, k0_413, k0_414, k0_417, k0_420, k0_421, k0_678, k0_681, rf_s, pushR_s, pushR_n, le4_0, le4_1, le4_2, le4_3, le4_4, isLong_n, isLong_i, isLong_r, isLong_f, if_true, if_false, not_true_eq_false, not_false_eq_true, isI_0, isI_9, isAr_0, isAr_1, isAr_2, isAr_9, okR_i, okR_0, okR_1, putI_0, putI_b0, putI_b1, nI_10, nI_00, Nat.reduceLT, Nat.reduceLeDiff, nI_add, upM_s, upI_s, pk_mul, nf_at, t, l, e, h0, hL, z, i0, i1, i2, i3, hc, nI_lit, Nat.reduceEqDiff, a1, t', l', e', m', a2]
theorem st_10 {σ : Sg} {M : Mem} (k : LK L xs σ M) {i : Nat} (hi : i + 4 ≤ L) (hl : L ≤ 2048) (hc : xs i &&& nI 31 = nI 10) : Done L xs σ M i := by
  have k0 := k
  obtain ⟨hm, h, h0, t, l, e, _, _⟩ := k
  have hL : L < 1000000 := by omega
  have z : ¬ nI L - nI 4 < nI i := by
    rw [pk_sub (by omega)]
    exact nI_nlt (by omega) (by omega)
  have i0 : i < L := by omega
  have i1 : i + 1 < L := by omega
  have i2 : i + 2 < L := by omega
  have i3 : i + 3 < L := by omega
  obtain ⟨r, τ, M1, M2, a1, a2, b1, b2, b3, b4⟩ := p_10 hm h (xs (i + 1))
  have t' : sT τ 1003 = 9 := by rw [b2.1]; exact t
  have l' : sL τ 1003 = L := by rw [b2.2.1]; exact l
  have e' : M1 1003 = xs := b3.trans e
  have m' : sT τ 106 = 17 := by rw [b2.1]; exact im_t106 hm
  refine ⟨τ, M2, LK_s k0 b1 b2 b4, fun Q => ?_⟩
  rw [k0_18]
  simp only [k0_19, k0_20, k0_21, k0_22, k0_23, k0_26, k0_27, k0_28, k0_29, k0_31, k0_32, k0_422, k0_423, k0_424, k0_425, k0_426, k0_427, k0_428, k0_431, k0_432, k0_433, k0_434, k0_435, k0_436, k0_437, k0_440, k0_443, k0_444, k0_678, k0_681, rf_s, pushR_s, pushR_n, le4_0, le4_1, le4_2, le4_3, le4_4, isLong_n, isLong_i, isLong_r, isLong_f, if_true, if_false, not_true_eq_false, not_false_eq_true, isI_0, isI_9, isAr_0, isAr_1, isAr_2, isAr_9, okR_i, okR_0, okR_1, putI_0, putI_b0, putI_b1, nI_10, nI_00, Nat.reduceLT, Nat.reduceLeDiff, nI_add, upM_s, upI_s, pk_mul, nf_at, t, l, e, h0, hL, z, i0, i1, i2, i3, hc, nI_lit, Nat.reduceEqDiff, a1, t', l', e', m', a2]
theorem st_11 {σ : Sg} {M : Mem} (k : LK L xs σ M) {i : Nat} (hi : i + 4 ≤ L) (hl : L ≤ 2048) (hc : xs i &&& nI 31 = nI 11) : Done L xs σ M i := by
  have k0 := k
  obtain ⟨hm, h, h0, t, l, e, _, _⟩ := k
  have hL : L < 1000000 := by omega
  have z : ¬ nI L - nI 4 < nI i := by
    rw [pk_sub (by omega)]
    exact nI_nlt (by omega) (by omega)
  have i0 : i < L := by omega
  have i1 : i + 1 < L := by omega
  have i2 : i + 2 < L := by omega
  have i3 : i + 3 < L := by omega
  obtain ⟨r, τ, M1, M2, a1, a2, b1, b2, b3, b4⟩ := p_11 hm h (xs (i + 1)) (xs (i + 2))
  have t' : sT τ 1003 = 9 := by rw [b2.1]; exact t
  have l' : sL τ 1003 = L := by rw [b2.2.1]; exact l
  have e' : M1 1003 = xs := b3.trans e
  have m' : sT τ 106 = 17 := by rw [b2.1]; exact im_t106 hm
  refine ⟨τ, M2, LK_s k0 b1 b2 b4, fun Q => ?_⟩
  rw [k0_18]
  simp only [k0_19, k0_20, k0_21, k0_22, k0_23, k0_26, k0_27, k0_28, k0_29, k0_31, k0_32, k0_445, k0_446, k0_447, k0_448, k0_449, k0_450, k0_451, k0_452, k0_453, k0_454, k0_455, k0_456, k0_459, k0_460, k0_461, k0_462, k0_463, k0_464, k0_465, k0_466, k0_467, k0_468, k0_469, k0_470, k0_473, k0_476, k0_477, k0_678, k0_681, rf_s, pushR_s, pushR_n, le4_0, le4_1, le4_2, le4_3, le4_4, isLong_n, isLong_i, isLong_r, isLong_f, if_true, if_false, not_true_eq_false, not_false_eq_true, isI_0, isI_9, isAr_0, isAr_1, isAr_2, isAr_9, okR_i, okR_0, okR_1, putI_0, putI_b0, putI_b1, nI_10, nI_00, Nat.reduceLT, Nat.reduceLeDiff, nI_add, upM_s, upI_s, pk_mul, nf_at, t, l, e, h0, hL, z, i0, i1, i2, i3, hc, nI_lit, Nat.reduceEqDiff, a1, t', l', e', m', a2]
theorem st_12 {σ : Sg} {M : Mem} (k : LK L xs σ M) {i : Nat} (hi : i + 4 ≤ L) (hl : L ≤ 2048) (hc : xs i &&& nI 31 = nI 12) : Done L xs σ M i := by
  have k0 := k
  obtain ⟨hm, h, h0, t, l, e, _, _⟩ := k
  have hL : L < 1000000 := by omega
  have z : ¬ nI L - nI 4 < nI i := by
    rw [pk_sub (by omega)]
    exact nI_nlt (by omega) (by omega)
  have i0 : i < L := by omega
  have i1 : i + 1 < L := by omega
  have i2 : i + 2 < L := by omega
  have i3 : i + 3 < L := by omega
  obtain ⟨r, τ, M1, M2, a1, a2, b1, b2, b3, b4⟩ := p_12 hm h (xs (i + 1))
  have t' : sT τ 1003 = 9 := by rw [b2.1]; exact t
  have l' : sL τ 1003 = L := by rw [b2.2.1]; exact l
  have e' : M1 1003 = xs := b3.trans e
  have m' : sT τ 106 = 17 := by rw [b2.1]; exact im_t106 hm
  refine ⟨τ, M2, LK_s k0 b1 b2 b4, fun Q => ?_⟩
  rw [k0_18]
  simp only [k0_19, k0_20, k0_21, k0_22, k0_23, k0_26, k0_27, k0_28, k0_29, k0_31, k0_32, k0_478, k0_479, k0_480, k0_481, k0_482, k0_483, k0_484, k0_487, k0_488, k0_489, k0_490, k0_491, k0_492, k0_493, k0_496, k0_499, k0_500, k0_678, k0_681, rf_s, pushR_s, pushR_n, le4_0, le4_1, le4_2, le4_3, le4_4, isLong_n, isLong_i, isLong_r, isLong_f, if_true, if_false, not_true_eq_false, not_false_eq_true, isI_0, isI_9, isAr_0, isAr_1, isAr_2, isAr_9, okR_i, okR_0, okR_1, putI_0, putI_b0, putI_b1, nI_10, nI_00, Nat.reduceLT, Nat.reduceLeDiff, nI_add, upM_s, upI_s, pk_mul, nf_at, t, l, e, h0, hL, z, i0, i1, i2, i3, hc, nI_lit, Nat.reduceEqDiff, a1, t', l', e', m', a2]
theorem st_13 {σ : Sg} {M : Mem} (k : LK L xs σ M) {i : Nat} (hi : i + 4 ≤ L) (hl : L ≤ 2048) (hc : xs i &&& nI 31 = nI 13) : Done L xs σ M i := by
  have k0 := k
  obtain ⟨hm, h, h0, t, l, e, _, _⟩ := k
  have hL : L < 1000000 := by omega
  have z : ¬ nI L - nI 4 < nI i := by
    rw [pk_sub (by omega)]
    exact nI_nlt (by omega) (by omega)
  have i0 : i < L := by omega
  have i1 : i + 1 < L := by omega
  have i2 : i + 2 < L := by omega
  have i3 : i + 3 < L := by omega
  obtain ⟨r, τ, M1, M2, a1, a2, b1, b2, b3, b4⟩ := p_13 hm h
  have t' : sT τ 1003 = 9 := by rw [b2.1]; exact t
  have l' : sL τ 1003 = L := by rw [b2.2.1]; exact l
  have e' : M1 1003 = xs := b3.trans e
  have m' : sT τ 106 = 17 := by rw [b2.1]; exact im_t106 hm
  refine ⟨τ, M2, LK_s k0 b1 b2 b4, fun Q => ?_⟩
  rw [k0_18]
  simp only [k0_19, k0_20, k0_21, k0_22, k0_23, k0_26, k0_27, k0_28, k0_29, k0_31, k0_32, k0_501, k0_502, k0_505, k0_506, k0_509, k0_512, k0_513, k0_678, k0_681, rf_s, pushR_s, pushR_n, le4_0, le4_1, le4_2, le4_3, le4_4, isLong_n, isLong_i, isLong_r, isLong_f, if_true, if_false, not_true_eq_false, not_false_eq_true, isI_0, isI_9, isAr_0, isAr_1, isAr_2, isAr_9, okR_i, okR_0, okR_1, putI_0, putI_b0, putI_b1, nI_10, nI_00, Nat.reduceLT, Nat.reduceLeDiff, nI_add, upM_s, upI_s, pk_mul, nf_at, t, l, e, h0, hL, z, i0, i1, i2, i3, hc, nI_lit, Nat.reduceEqDiff, a1, t', l', e', m', a2]
theorem st_14 {σ : Sg} {M : Mem} (k : LK L xs σ M) {i : Nat} (hi : i + 4 ≤ L) (hl : L ≤ 2048) (hc : xs i &&& nI 31 = nI 14) : Done L xs σ M i := by
  have k0 := k
  obtain ⟨hm, h, h0, t, l, e, _, _⟩ := k
  have hL : L < 1000000 := by omega
  have z : ¬ nI L - nI 4 < nI i := by
    rw [pk_sub (by omega)]
    exact nI_nlt (by omega) (by omega)
  have i0 : i < L := by omega
  have i1 : i + 1 < L := by omega
  have i2 : i + 2 < L := by omega
  have i3 : i + 3 < L := by omega
  obtain ⟨r, τ, M1, M2, a1, a2, b1, b2, b3, b4⟩ := p_14 hm h (xs (i + 1))
  have t' : sT τ 1003 = 9 := by rw [b2.1]; exact t
  have l' : sL τ 1003 = L := by rw [b2.2.1]; exact l
  have e' : M1 1003 = xs := b3.trans e
  have m' : sT τ 106 = 17 := by rw [b2.1]; exact im_t106 hm
  refine ⟨τ, M2, LK_s k0 b1 b2 b4, fun Q => ?_⟩
  rw [k0_18]
  simp only [k0_19, k0_20, k0_21, k0_22, k0_23, k0_26, k0_27, k0_28, k0_29, k0_31, k0_32, k0_514, k0_515, k0_516, k0_517, k0_518, k0_519, k0_520, k0_523, k0_524, k0_525, k0_526, k0_527, k0_528, k0_529, k0_532, k0_535, k0_536, k0_678, k0_681, rf_s, pushR_s, pushR_n, le4_0, le4_1, le4_2, le4_3, le4_4, isLong_n, isLong_i, isLong_r, isLong_f, if_true, if_false, not_true_eq_false, not_false_eq_true, isI_0, isI_9, isAr_0, isAr_1, isAr_2, isAr_9, okR_i, okR_0, okR_1, putI_0, putI_b0, putI_b1, nI_10, nI_00, Nat.reduceLT, Nat.reduceLeDiff, nI_add, upM_s, upI_s, pk_mul, nf_at, t, l, e, h0, hL, z, i0, i1, i2, i3, hc, nI_lit, Nat.reduceEqDiff, a1, t', l', e', m', a2]
theorem st_15 {σ : Sg} {M : Mem} (k : LK L xs σ M) {i : Nat} (hi : i + 4 ≤ L) (hl : L ≤ 2048) (hc : xs i &&& nI 31 = nI 15) : Done L xs σ M i := by
  have k0 := k
  obtain ⟨hm, h, h0, t, l, e, _, _⟩ := k
  have hL : L < 1000000 := by omega
  have z : ¬ nI L - nI 4 < nI i := by
    rw [pk_sub (by omega)]
    exact nI_nlt (by omega) (by omega)
  have i0 : i < L := by omega
  have i1 : i + 1 < L := by omega
  have i2 : i + 2 < L := by omega
  have i3 : i + 3 < L := by omega
  obtain ⟨r, τ, M1, M2, a1, a2, b1, b2, b3, b4⟩ := p_15 hm h (xs (i + 1)) (xs (i + 2))
  have t' : sT τ 1003 = 9 := by rw [b2.1]; exact t
  have l' : sL τ 1003 = L := by rw [b2.2.1]; exact l
  have e' : M1 1003 = xs := b3.trans e
  have m' : sT τ 106 = 17 := by rw [b2.1]; exact im_t106 hm
  refine ⟨τ, M2, LK_s k0 b1 b2 b4, fun Q => ?_⟩
  rw [k0_18]
  simp only [k0_19, k0_20, k0_21, k0_22, k0_23, k0_26, k0_27, k0_28, k0_29, k0_31, k0_32, k0_537, k0_538, k0_539, k0_540, k0_541, k0_542, k0_543, k0_544, k0_545, k0_546, k0_547, k0_548, k0_551, k0_552, k0_553, k0_554, k0_555, k0_556, k0_557, k0_558, k0_559, k0_560, k0_561, k0_562, k0_565, k0_568, k0_569, k0_678, k0_681, rf_s, pushR_s, pushR_n, le4_0, le4_1, le4_2, le4_3, le4_4, isLong_n, isLong_i, isLong_r, isLong_f, if_true, if_false, not_true_eq_false, not_false_eq_true, isI_0, isI_9, isAr_0, isAr_1, isAr_2, isAr_9, okR_i, okR_0, okR_1, putI_0, putI_b0, putI_b1, nI_10, nI_00, Nat.reduceLT, Nat.reduceLeDiff, nI_add, upM_s, upI_s, pk_mul, nf_at, t, l, e, h0, hL, z, i0, i1, i2, i3, hc, nI_lit, Nat.reduceEqDiff, a1, t', l', e', m', a2]
theorem st_16 {σ : Sg} {M : Mem} (k : LK L xs σ M) {i : Nat} (hi : i + 4 ≤ L) (hl : L ≤ 2048) (hc : xs i &&& nI 31 = nI 16) : Done L xs σ M i := by
  have k0 := k
  obtain ⟨hm, h, h0, t, l, e, _, _⟩ := k
  have hL : L < 1000000 := by omega
  have z : ¬ nI L - nI 4 < nI i := by
    rw [pk_sub (by omega)]
    exact nI_nlt (by omega) (by omega)
  have i0 : i < L := by omega
  have i1 : i + 1 < L := by omega
  have i2 : i + 2 < L := by omega
  have i3 : i + 3 < L := by omega
  obtain ⟨r, τ, M1, M2, a1, a2, b1, b2, b3, b4⟩ := p_16 hm h (xs (i + 1))
  have t' : sT τ 1003 = 9 := by rw [b2.1]; exact t
  have l' : sL τ 1003 = L := by rw [b2.2.1]; exact l
  have e' : M1 1003 = xs := b3.trans e
  have m' : sT τ 106 = 17 := by rw [b2.1]; exact im_t106 hm
  refine ⟨τ, M2, LK_s k0 b1 b2 b4, fun Q => ?_⟩
  rw [k0_18]
  simp only [k0_19, k0_20, k0_21, k0_22, k0_23, k0_26, k0_27, k0_28, k0_29, k0_31, k0_32, k0_570, k0_571, k0_572, k0_573, k0_574, k0_575, k0_576, k0_579, k0_580, k0_581, k0_582, k0_583, k0_584, k0_585, k0_588, k0_591, k0_592, k0_678, k0_681, rf_s, pushR_s, pushR_n, le4_0, le4_1, le4_2, le4_3, le4_4, isLong_n, isLong_i, isLong_r, isLong_f, if_true, if_false, not_true_eq_false, not_false_eq_true, isI_0, isI_9, isAr_0, isAr_1, isAr_2, isAr_9, okR_i, okR_0, okR_1, putI_0, putI_b0, putI_b1, nI_10, nI_00, Nat.reduceLT, Nat.reduceLeDiff, nI_add, upM_s, upI_s, pk_mul, nf_at, t, l, e, h0, hL, z, i0, i1, i2, i3, hc, nI_lit, Nat.reduceEqDiff, a1, t', l', e', m', a2]
theorem st_17 {σ : Sg} {M : Mem} (k : LK L xs σ M) {i : Nat} (hi : i + 4 ≤ L) (hl : L ≤ 2048) (hc : xs i &&& nI 31 = nI 17) : Done L xs σ M i := by
  have k0 := k
  obtain ⟨hm, h, h0, t, l, e, _, _⟩ := k
  have hL : L < 1000000 := by omega
  have z : ¬ nI L - nI 4 < nI i := by
    rw [pk_sub (by omega)]
    exact nI_nlt (by omega) (by omega)
  have i0 : i < L := by omega
  have i1 : i + 1 < L := by omega
  have i2 : i + 2 < L := by omega
  have i3 : i + 3 < L := by omega
  obtain ⟨r, τ, M1, M2, a1, a2, b1, b2, b3, b4⟩ := p_17 hm h
  have t' : sT τ 1003 = 9 := by rw [b2.1]; exact t
  have l' : sL τ 1003 = L := by rw [b2.2.1]; exact l
  have e' : M1 1003 = xs := b3.trans e
  have m' : sT τ 106 = 17 := by rw [b2.1]; exact im_t106 hm
  refine ⟨τ, M2, LK_s k0 b1 b2 b4, fun Q => ?_⟩
  rw [k0_18]
  simp only [k0_19, k0_20, k0_21, k0_22, k0_23, k0_26, k0_27, k0_28, k0_29, k0_31, k0_32, k0_593, k0_594, k0_597, k0_598, k0_601, k0_604, k0_605, k0_678, k0_681, rf_s, pushR_s, pushR_n, le4_0, le4_1, le4_2, le4_3, le4_4, isLong_n, isLong_i, isLong_r, isLong_f, if_true, if_false, not_true_eq_false, not_false_eq_true, isI_0, isI_9, isAr_0, isAr_1, isAr_2, isAr_9, okR_i, okR_0, okR_1, putI_0, putI_b0, putI_b1, nI_10, nI_00, Nat.reduceLT, Nat.reduceLeDiff, nI_add, upM_s, upI_s, pk_mul, nf_at, t, l, e, h0, hL, z, i0, i1, i2, i3, hc, nI_lit, Nat.reduceEqDiff, a1, t', l', e', m', a2]
theorem st_18 {σ : Sg} {M : Mem} (k : LK L xs σ M) {i : Nat} (hi : i + 4 ≤ L) (hl : L ≤ 2048) (hc : xs i &&& nI 31 = nI 18) : Done L xs σ M i := by
  have k0 := k
  obtain ⟨hm, h, h0, t, l, e, _, _⟩ := k
  have hL : L < 1000000 := by omega
  have z : ¬ nI L - nI 4 < nI i := by
    rw [pk_sub (by omega)]
    exact nI_nlt (by omega) (by omega)
  have i0 : i < L := by omega
  have i1 : i + 1 < L := by omega
  have i2 : i + 2 < L := by omega
  have i3 : i + 3 < L := by omega
  obtain ⟨r, τ, M1, M2, a1, a2, b1, b2, b3, b4⟩ := p_18 hm h (xs (i + 1))
  have t' : sT τ 1003 = 9 := by rw [b2.1]; exact t
  have l' : sL τ 1003 = L := by rw [b2.2.1]; exact l
  have e' : M1 1003 = xs := b3.trans e
  have m' : sT τ 106 = 17 := by rw [b2.1]; exact im_t106 hm
  refine ⟨τ, M2, LK_s k0 b1 b2 b4, fun Q => ?_⟩
  rw [k0_18]
  simp only [k0_19, k0_20, k0_21, k0_22, k0_23, k0_26, k0_27, k0_28, k0_29, k0_31, k0_32, k0_606, k0_607, k0_608, k0_609, k0_610, k0_611, k0_612, k0_615, k0_616, k0_617, k0_618, k0_619, k0_620, k0_621, k0_624, k0_627, k0_628, k0_678, k0_681, rf_s, pushR_s, pushR_n, le4_0, le4_1, le4_2, le4_3, le4_4, isLong_n, isLong_i, isLong_r, isLong_f, if_true, if_false, not_true_eq_false, not_false_eq_true, isI_0, isI_9, isAr_0, isAr_1, isAr_2, isAr_9, okR_i, okR_0, okR_1, putI_0, putI_b0, putI_b1, nI_10, nI_00, Nat.reduceLT, Nat.reduceLeDiff, nI_add, upM_s, upI_s, pk_mul, nf_at, t, l, e, h0, hL, z, i0, i1, i2, i3, hc, nI_lit, Nat.reduceEqDiff, a1, t', l', e', m', a2]
theorem st_19 {σ : Sg} {M : Mem} (k : LK L xs σ M) {i : Nat} (hi : i + 4 ≤ L) (hl : L ≤ 2048) (hc : xs i &&& nI 31 = nI 19) : Done L xs σ M i := by
  have k0 := k
  obtain ⟨hm, h, h0, t, l, e, _, _⟩ := k
  have hL : L < 1000000 := by omega
  have z : ¬ nI L - nI 4 < nI i := by
    rw [pk_sub (by omega)]
    exact nI_nlt (by omega) (by omega)
  have i0 : i < L := by omega
  have i1 : i + 1 < L := by omega
  have i2 : i + 2 < L := by omega
  have i3 : i + 3 < L := by omega
  obtain ⟨r, τ, M1, M2, a1, a2, b1, b2, b3, b4⟩ := p_19 hm h
  have t' : sT τ 1003 = 9 := by rw [b2.1]; exact t
  have l' : sL τ 1003 = L := by rw [b2.2.1]; exact l
  have e' : M1 1003 = xs := b3.trans e
  have m' : sT τ 106 = 17 := by rw [b2.1]; exact im_t106 hm
  refine ⟨τ, M2, LK_s k0 b1 b2 b4, fun Q => ?_⟩
  rw [k0_18]
  simp only [k0_19, k0_20, k0_21, k0_22, k0_23, k0_26, k0_27, k0_28, k0_29, k0_31, k0_32, k0_629, k0_630, k0_633, k0_634, k0_637, k0_640, k0_641, k0_678, k0_681, rf_s, pushR_s, pushR_n, le4_0, le4_1, le4_2, le4_3, le4_4, isLong_n, isLong_i, isLong_r, isLong_f, if_true, if_false, not_true_eq_false, not_false_eq_true, isI_0, isI_9, isAr_0, isAr_1, isAr_2, isAr_9, okR_i, okR_0, okR_1, putI_0, putI_b0, putI_b1, nI_10, nI_00, Nat.reduceLT, Nat.reduceLeDiff, nI_add, upM_s, upI_s, pk_mul, nf_at, t, l, e, h0, hL, z, i0, i1, i2, i3, hc, nI_lit, Nat.reduceEqDiff, a1, t', l', e', m', a2]
theorem st_20 {σ : Sg} {M : Mem} (k : LK L xs σ M) {i : Nat} (hi : i + 4 ≤ L) (hl : L ≤ 2048) (hc : xs i &&& nI 31 = nI 20) : Done L xs σ M i := by
  have k0 := k
  obtain ⟨hm, h, h0, t, l, e, _, _⟩ := k
  have hL : L < 1000000 := by omega
  have z : ¬ nI L - nI 4 < nI i := by
    rw [pk_sub (by omega)]
    exact nI_nlt (by omega) (by omega)
  have i0 : i < L := by omega
  have i1 : i + 1 < L := by omega
  have i2 : i + 2 < L := by omega
  have i3 : i + 3 < L := by omega
  obtain ⟨r, τ, M1, M2, a1, a2, b1, b2, b3, b4⟩ := p_20 hm h (xs (i + 1))
  have t' : sT τ 1003 = 9 := by rw [b2.1]; exact t
  have l' : sL τ 1003 = L := by rw [b2.2.1]; exact l
  have e' : M1 1003 = xs := b3.trans e
  have m' : sT τ 106 = 17 := by rw [b2.1]; exact im_t106 hm
  refine ⟨τ, M2, LK_s k0 b1 b2 b4, fun Q => ?_⟩
  rw [k0_18]
  simp only [k0_19, k0_20, k0_21, k0_22, k0_23, k0_26, k0_27, k0_28, k0_29, k0_31, k0_32, k0_642, k0_643, k0_644, k0_645, k0_646, k0_647, k0_648, k0_651, k0_652, k0_653, k0_654, k0_655, k0_656, k0_657, k0_660, k0_663, k0_664, k0_678, k0_681, rf_s, pushR_s, pushR_n, le4_0, le4_1, le4_2, le4_3, le4_4, isLong_n, isLong_i, isLong_r, isLong_f, if_true, if_false, not_true_eq_false, not_false_eq_true, isI_0, isI_9, isAr_0, isAr_1, isAr_2, isAr_9, okR_i, okR_0, okR_1, putI_0, putI_b0, putI_b1, nI_10, nI_00, Nat.reduceLT, Nat.reduceLeDiff, nI_add, upM_s, upI_s, pk_mul, nf_at, t, l, e, h0, hL, z, i0, i1, i2, i3, hc, nI_lit, Nat.reduceEqDiff, a1, t', l', e', m', a2]
theorem st_21 {σ : Sg} {M : Mem} (k : LK L xs σ M) {i : Nat} (hi : i + 4 ≤ L) (hl : L ≤ 2048) (hc : xs i &&& nI 31 = nI 21) : Done L xs σ M i := by
  have k0 := k
  obtain ⟨hm, h, h0, t, l, e, _, _⟩ := k
  have hL : L < 1000000 := by omega
  have z : ¬ nI L - nI 4 < nI i := by
    rw [pk_sub (by omega)]
    exact nI_nlt (by omega) (by omega)
  have i0 : i < L := by omega
  have i1 : i + 1 < L := by omega
  have i2 : i + 2 < L := by omega
  have i3 : i + 3 < L := by omega
  obtain ⟨r, τ, M1, M2, a1, a2, b1, b2, b3, b4⟩ := p_21 hm h
  have t' : sT τ 1003 = 9 := by rw [b2.1]; exact t
  have l' : sL τ 1003 = L := by rw [b2.2.1]; exact l
  have e' : M1 1003 = xs := b3.trans e
  have m' : sT τ 106 = 17 := by rw [b2.1]; exact im_t106 hm
  refine ⟨τ, M2, LK_s k0 b1 b2 b4, fun Q => ?_⟩
  rw [k0_18]
  simp only [k0_19, k0_20, k0_21, k0_22, k0_23, k0_26, k0_27, k0_28, k0_29, k0_31, k0_32, k0_665, k0_666, k0_669, k0_670, k0_673, k0_676, k0_677, k0_678, k0_681, rf_s, pushR_s, pushR_n, le4_0, le4_1, le4_2, le4_3, le4_4, isLong_n, isLong_i, isLong_r, isLong_f, if_true, if_false, not_true_eq_false, not_false_eq_true, isI_0, isI_9, isAr_0, isAr_1, isAr_2, isAr_9, okR_i, okR_0, okR_1, putI_0, putI_b0, putI_b1, nI_10, nI_00, Nat.reduceLT, Nat.reduceLeDiff, nI_add, upM_s, upI_s, pk_mul, nf_at, t, l, e, h0, hL, z, i0, i1, i2, i3, hc, nI_lit, Nat.reduceEqDiff, a1, t', l', e', m', a2]
theorem st_n {σ : Sg} {M : Mem} (k : LK L xs σ M) {i : Nat} (hi : i + 4 ≤ L) (hl : L ≤ 2048) (hc : ∀ w, w < 22 → ¬ xs i &&& nI 31 = nI w) : Done L xs σ M i := by
  have k0 := k
  obtain ⟨hm, h, h0, t, l, e, _, _⟩ := k
  have hL : L < 1000000 := by omega
  have z : ¬ nI L - nI 4 < nI i := by
    rw [pk_sub (by omega)]
    exact nI_nlt (by omega) (by omega)
  have i0 : i < L := by omega
  have i1 : i + 1 < L := by omega
  have i2 : i + 2 < L := by omega
  have i3 : i + 3 < L := by omega
  refine ⟨σ, M, k0, fun Q => ?_⟩
  rw [k0_18]
  simp only [k0_19, k0_20, k0_21, k0_22, k0_23, k0_26, k0_27, k0_28, k0_29, k0_31, k0_32, k0_678, k0_681, rf_s, pushR_s, pushR_n, le4_0, le4_1, le4_2, le4_3, le4_4, isLong_n, isLong_i, isLong_r, isLong_f, if_true, if_false, not_true_eq_false, not_false_eq_true, isI_0, isI_9, isAr_0, isAr_1, isAr_2, isAr_9, okR_i, okR_0, okR_1, putI_0, putI_b0, putI_b1, nI_10, nI_00, Nat.reduceLT, Nat.reduceLeDiff, nI_add, upM_s, upI_s, pk_mul, nf_at, t, l, e, hL, z, i0, hc 0 (by omega), hc 1 (by omega), hc 2 (by omega), hc 3 (by omega), hc 4 (by omega), hc 5 (by omega), hc 6 (by omega), hc 7 (by omega), hc 8 (by omega), hc 9 (by omega), hc 10 (by omega), hc 11 (by omega), hc 12 (by omega), hc 13 (by omega), hc 14 (by omega), hc 15 (by omega), hc 16 (by omega), hc 17 (by omega), hc 18 (by omega), hc 19 (by omega), hc 20 (by omega), hc 21 (by omega)]
theorem st_any {σ : Sg} {M : Mem} (k : LK L xs σ M) {i : Nat} (hi : i + 4 ≤ L) (hl : L ≤ 2048) : Done L xs σ M i := by
  by_cases c : ∃ w, w < 22 ∧ xs i &&& nI 31 = nI w
  · obtain ⟨w, hw, hc⟩ := c
    have hw' : w = 0 ∨ w = 1 ∨ w = 2 ∨ w = 3 ∨ w = 4 ∨ w = 5 ∨ w = 6 ∨ w = 7 ∨ w = 8 ∨ w = 9 ∨ w = 10 ∨ w = 11 ∨ w = 12 ∨ w = 13 ∨ w = 14 ∨ w = 15 ∨ w = 16 ∨ w = 17 ∨ w = 18 ∨ w = 19 ∨ w = 20 ∨ w = 21 := by omega
    rcases hw' with q | q | q | q | q | q | q | q | q | q | q | q | q | q | q | q | q | q | q | q | q | q <;> subst q
    · exact st_0 k hi hl hc
    · exact st_1 k hi hl hc
    · exact st_2 k hi hl hc
    · exact st_3 k hi hl hc
    · exact st_4 k hi hl hc
    · exact st_5 k hi hl hc
    · exact st_6 k hi hl hc
    · exact st_7 k hi hl hc
    · exact st_8 k hi hl hc
    · exact st_9 k hi hl hc
    · exact st_10 k hi hl hc
    · exact st_11 k hi hl hc
    · exact st_12 k hi hl hc
    · exact st_13 k hi hl hc
    · exact st_14 k hi hl hc
    · exact st_15 k hi hl hc
    · exact st_16 k hi hl hc
    · exact st_17 k hi hl hc
    · exact st_18 k hi hl hc
    · exact st_19 k hi hl hc
    · exact st_20 k hi hl hc
    · exact st_21 k hi hl hc
  · exact st_n k hi hl (fun w hw e => c ⟨w, hw, e⟩)
theorem loopE {σ : Sg} {M : Mem} (k : LK L xs σ M) {i : Nat} (hi : L < i + 4) (hi2 : i < 5000) (hl : L ≤ 2048) : wp 0 18 [some (.ref 1003), some (.ref 0), some (.ref 106), some (.int (nI i))] [] σ M qEnd := by
  obtain ⟨hm, h, h0, t, l, e, n1, n2⟩ := k
  have z : nI L - nI 4 < nI i := by
    refine Int32.lt_iff_toInt_lt.2 ?_
    rw [pk_sub_toInt (by omega) (by omega), nI_toInt (by omega)]
    omega
  rw [k0_18]
  simp only [k0_19, k0_20, k0_21, k0_22, k0_23, k0_684, k0_685, rf_s, pushR_s, pushR_n, le4_0, le4_1, le4_2, le4_3, le4_4, isLong_n, isLong_i, isLong_r, isLong_f, if_true, if_false, not_true_eq_false, not_false_eq_true, isI_0, isI_9, isAr_0, isAr_1, isAr_2, isAr_9, okR_i, okR_0, okR_1, putI_0, putI_b0, putI_b1, nI_10, nI_00, Nat.reduceLT, Nat.reduceLeDiff, nI_add, upM_s, upI_s, pk_mul, nf_at, t, l, z]
  exact ⟨rfl, n1, n2⟩
theorem loop : ∀ (f i : Nat) (σ : Sg) (M : Mem), LK L xs σ M → L < i + 4 * f + 4 → i ≤ L + 4 → L ≤ 2048 → wp 0 18 [some (.ref 1003), some (.ref 0), some (.ref 106), some (.int (nI i))] [] σ M qEnd
  | 0, i, σ, M, k, h1, h2, h3 => loopE k (by omega) (by omega) h3
  | f + 1, i, σ, M, k, h1, h2, h3 => by
    by_cases c : i + 4 ≤ L
    · obtain ⟨τ, M2, a, b⟩ := st_any k c h3
      rw [b]
      exact loop f (i + 4) τ M2 a (by omega) (by omega) h3
    · exact loopE k (by omega) (by omega) h3
end LOOP
