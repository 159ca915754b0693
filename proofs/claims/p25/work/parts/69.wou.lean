/-! the law's would -/
section WOU
variable {L : Nat} {xs : Nat → Int32} {σ : Sg} {M : Mem} {s : Nat → Nat} {H : Nat → Nat → Nat} {n len B : Nat} {T : Nat → Nat}
theorem food_lt {s : Nat → Nat} (i : Inv s) (h2 : 2 ≤ s 0) : s 7 < s 0 := by
  have f := i.2.2.1
  unfold fOk at f
  omega
theorem wd2 (K : Lw L xs σ M s H n len T B) (h2 : 2 ≤ s 0) (l1 l2 l3 l4 l5 : Option Value) : ∃ M', (∀ Q, wp 98 155 [some (.ref 0), l1, l2, l3, l4, l5, some (.int (nI (aAnt s 0))), some (.int (nI (gW s).1)), some (.int (nI 1))] [] σ M Q = Q (some (.int (nI 1))) σ M') ∧ Lw L xs σ M' s H n len T B := by
  have i := K.inv
  have pj := K.pj
  have t0 := K.t0
  have g0 := i.1.1
  have f7 := food_lt i h2
  have n2 : ¬ s 0 < 2 := by omega
  obtain ⟨w1, w2, w3⟩ := ant_ok i h2 pj
  obtain ⟨v1, v2⟩ := gW_ok i h2
  have so := i.2.1
  unfold sOk at so
  obtain ⟨M1, a1, K1⟩ := e16 K (w := 2) (by omega)
  obtain ⟨M2, a2, K2⟩ := e16 K1 (w := 1) (by omega)
  obtain ⟨M3, a3, K3⟩ := e16 K2 (w := 1) (by omega)
  obtain ⟨M4, a4, K4⟩ := e14 K3 (w := 1) (by omega)
  obtain ⟨M5, a5, K5⟩ := e15 K4
  rw [show anV s 2 = nI (aAnt s 2) from if_neg n2] at a1
  rw [show anV s 1 = nI (aAnt s 1) from if_neg n2] at a2 a3
  rw [show gV s 1 = nI (gW s).2.1 from if_neg n2] at a4
  have h1 : ¬ nI (aAnt s 0) < 0 := nI_pos (by omega)
  have h3 : ¬ nI 2 < nI (aAnt s 0) := nI_nlt (by omega) (by omega)
  have h4 : ¬ nI (aAnt s 1) < 0 := nI_pos (by omega)
  have h5 : ¬ nI (s 19) < nI (aAnt s 1) := nI_nlt (by omega) (by omega)
  have h6 : ¬ nI (gW s).1 < 0 := nI_pos (by omega)
  have h7 : ¬ nI 180 < nI (gW s).1 := nI_nlt (by omega) (by omega)
  have h8 : nI (gW s).2.1 < nI (s 0) := nI_lt (by omega) (by omega)
  have a2w : aAnt s 2 < 2 ^ 31 := by
    obtain ⟨x1, x2, x3, x4⟩ := wlk_ok i h2
    have := x2.2.2.1 (wlk s).2.1.2.1 (Nat.le_refl _)
    show (wlk s).2.1.2.2.2.2 (wlk s).2.1.2.1 < 2 ^ 31
    omega
  have s7 : s 7 < 2 ^ 31 := by omega
  by_cases o : oV s = -1000000004
  · have o' := eq_true o
    refine ⟨M5, fun Q => ?_, K5⟩
    by_cases d : aAnt s 0 = 0
    · have d1 : (nI (aAnt s 0) = 0) = True := eq_true (by rw [d]; exact nI_0)
      have d2 : (nI (aAnt s 2) = nI (s 7)) = True := eq_true (congrArg nI (w2.1 d))
      simp only [k98_155, k98_157, k98_160, k98_162, k98_165, k98_167, k98_168, k98_171, k98_173, k98_176, k98_177, k98_180, k98_181, k98_182, k98_183, k98_186, k98_187, k98_189, k98_192, k98_195, k98_196, k98_199, k98_200, k98_203, k98_204, k98_205, k98_208, k98_211, k98_212, k98_213, k98_216, k98_217, k98_219, k98_222, k98_225, k98_227, k98_230, k98_232, k98_235, k98_238, k98_239, k98_240, k98_243, k98_244, k98_245, k98_248, k98_251, k98_252, k98_255, k98_257, k98_260, k98_261, k98_264, k98_265, k98_266, k98_269, k98_270, k98_271, k98_273, k98_276, k98_277, k98_280, k98_281, k98_284, k98_285, k98_288, k98_289, rf_s, pushR_s, pushR_n, le4_0, le4_1, le4_2, le4_3, le4_4, isLong_n, isLong_i, isLong_r, isLong_f, if_true, if_false, not_true_eq_false, not_false_eq_true, isI_0, isI_9, isAr_0, isAr_1, isAr_2, isAr_9, okR_i, okR_0, okR_1, putI_0, putI_b0, putI_b1, nI_10, nI_00, Nat.reduceLT, Nat.reduceLeDiff, nI_add, upM_s, upI_s, pk_mul, nf_at, t0, a1, a2, a3, a4, a5, cnt_10 K1, cnt_26 K3, cnt_0 K4, h1, h3, h4, h5, h6, h7, h8, d1, d2, o', eq_self]
    · have d1 : ¬ nI (aAnt s 0) = 0 := nI_ne0 (by omega) (by omega)
      have d2 : ¬ nI (aAnt s 2) = nI (s 7) := fun e => d (w2.2 ((nI_eq a2w s7).1 e))
      simp only [k98_155, k98_157, k98_160, k98_162, k98_165, k98_167, k98_168, k98_171, k98_173, k98_176, k98_177, k98_180, k98_181, k98_182, k98_183, k98_186, k98_187, k98_189, k98_192, k98_195, k98_196, k98_199, k98_200, k98_203, k98_204, k98_205, k98_208, k98_211, k98_212, k98_213, k98_216, k98_217, k98_219, k98_222, k98_225, k98_227, k98_230, k98_232, k98_235, k98_238, k98_239, k98_240, k98_243, k98_244, k98_245, k98_248, k98_251, k98_252, k98_255, k98_257, k98_260, k98_261, k98_264, k98_265, k98_266, k98_269, k98_270, k98_271, k98_273, k98_276, k98_277, k98_280, k98_281, k98_284, k98_285, k98_288, k98_289, rf_s, pushR_s, pushR_n, le4_0, le4_1, le4_2, le4_3, le4_4, isLong_n, isLong_i, isLong_r, isLong_f, if_true, if_false, not_true_eq_false, not_false_eq_true, isI_0, isI_9, isAr_0, isAr_1, isAr_2, isAr_9, okR_i, okR_0, okR_1, putI_0, putI_b0, putI_b1, nI_10, nI_00, Nat.reduceLT, Nat.reduceLeDiff, nI_add, upM_s, upI_s, pk_mul, nf_at, t0, a1, a2, a3, a4, a5, cnt_10 K1, cnt_26 K3, cnt_0 K4, h1, h3, h4, h5, h6, h7, h8, d1, d2, o', eq_self]
  · have c9 : s 9 ≠ 0 := fun e => o (if_pos e)
    have cd : Dr s (s 0) (s 7) < 1000 := by
      by_cases q : Dr s (s 0) (s 7) < 1000
      · exact q
      · exact absurd (by unfold oV; rw [if_neg c9, if_neg q]) o
    have ov : oV s = nI (s 9) - dist s (s 7) := by
      unfold oV
      rw [if_neg c9, if_pos cd, dist_y cd]
    have oe := eq_true ov
    obtain ⟨M6, a6, K6⟩ := e15 K5
    obtain ⟨M7, a7, K7⟩ := pd K6 f7
    have b0 := fun Q => e11 K6 (w := 0) (by omega) Q
    rw [show bV s 0 = nI (s 9) from if_neg c9] at b0
    refine ⟨M7, fun Q => ?_, K7⟩
    by_cases d : aAnt s 0 = 0
    · have d1 : (nI (aAnt s 0) = 0) = True := eq_true (by rw [d]; exact nI_0)
      have d2 : (nI (aAnt s 2) = nI (s 7)) = True := eq_true (congrArg nI (w2.1 d))
      simp only [k98_155, k98_157, k98_160, k98_162, k98_165, k98_167, k98_168, k98_171, k98_173, k98_176, k98_177, k98_180, k98_181, k98_182, k98_183, k98_186, k98_187, k98_189, k98_192, k98_195, k98_196, k98_199, k98_200, k98_203, k98_204, k98_205, k98_208, k98_211, k98_212, k98_213, k98_216, k98_217, k98_219, k98_222, k98_225, k98_227, k98_230, k98_232, k98_235, k98_238, k98_239, k98_240, k98_243, k98_244, k98_245, k98_248, k98_251, k98_252, k98_255, k98_257, k98_260, k98_261, k98_264, k98_265, k98_266, k98_269, k98_270, k98_271, k98_273, k98_276, k98_277, k98_280, k98_281, k98_284, k98_285, k98_288, k98_289, rf_s, pushR_s, pushR_n, le4_0, le4_1, le4_2, le4_3, le4_4, isLong_n, isLong_i, isLong_r, isLong_f, if_true, if_false, not_true_eq_false, not_false_eq_true, isI_0, isI_9, isAr_0, isAr_1, isAr_2, isAr_9, okR_i, okR_0, okR_1, putI_0, putI_b0, putI_b1, nI_10, nI_00, Nat.reduceLT, Nat.reduceLeDiff, nI_add, upM_s, upI_s, pk_mul, nf_at, t0, a1, a2, a3, a4, a5, a6, a7, b0, cnt_10 K1, cnt_26 K3, cnt_0 K4, cnt_10 K6, h1, h3, h4, h5, h6, h7, h8, d1, d2, o, oe, eq_self]
    · have d1 : ¬ nI (aAnt s 0) = 0 := nI_ne0 (by omega) (by omega)
      have d2 : ¬ nI (aAnt s 2) = nI (s 7) := fun e => d (w2.2 ((nI_eq a2w s7).1 e))
      simp only [k98_155, k98_157, k98_160, k98_162, k98_165, k98_167, k98_168, k98_171, k98_173, k98_176, k98_177, k98_180, k98_181, k98_182, k98_183, k98_186, k98_187, k98_189, k98_192, k98_195, k98_196, k98_199, k98_200, k98_203, k98_204, k98_205, k98_208, k98_211, k98_212, k98_213, k98_216, k98_217, k98_219, k98_222, k98_225, k98_227, k98_230, k98_232, k98_235, k98_238, k98_239, k98_240, k98_243, k98_244, k98_245, k98_248, k98_251, k98_252, k98_255, k98_257, k98_260, k98_261, k98_264, k98_265, k98_266, k98_269, k98_270, k98_271, k98_273, k98_276, k98_277, k98_280, k98_281, k98_284, k98_285, k98_288, k98_289, rf_s, pushR_s, pushR_n, le4_0, le4_1, le4_2, le4_3, le4_4, isLong_n, isLong_i, isLong_r, isLong_f, if_true, if_false, not_true_eq_false, not_false_eq_true, isI_0, isI_9, isAr_0, isAr_1, isAr_2, isAr_9, okR_i, okR_0, okR_1, putI_0, putI_b0, putI_b1, nI_10, nI_00, Nat.reduceLT, Nat.reduceLeDiff, nI_add, upM_s, upI_s, pk_mul, nf_at, t0, a1, a2, a3, a4, a5, a6, a7, b0, cnt_10 K1, cnt_26 K3, cnt_0 K4, cnt_10 K6, h1, h3, h4, h5, h6, h7, h8, d1, d2, o, oe, eq_self]
theorem l98 (K : Lw L xs σ M s H n len T B) (v : Int32) : ∃ M', (∀ Q, wp 98 0 [some (.ref 0), some (.int v), none, none, none, none, none, none, none] [] σ M Q = Q (some (.int (nI 1))) σ M') ∧ Lw L xs σ M' s H n len T B := by
  have i := K.inv
  have pj := K.pj
  have t0 := K.t0
  have g0 := i.1.1
  have m7 := lw_lt (v := v) (m := 7) (by omega)
  have l7 := fun Q => l95 (v := v) (m := 7) (by omega) (by omega) (σ := σ) (M := M) Q
  generalize lw v 7 = m at *
  obtain ⟨M1, a1, K1⟩ := e17 K (m := m) (w := 0) (by omega) (by omega)
  obtain ⟨M2, a2, K2⟩ := e17 K1 (m := m) (w := 1) (by omega) (by omega)
  obtain ⟨M3, a3, K3⟩ := e16 K2 (w := 0) (by omega)
  obtain ⟨M4, a4, K4⟩ := e14 K3 (w := 1) (by omega)
  obtain ⟨M5, a5, K5⟩ := e14 K3 (w := 0) (by omega)
  by_cases c : s 0 < 2
  · rw [show anV s 0 = -1000000002 from if_pos c] at a3
    rw [show gV s 1 = -1000000002 from if_pos c] at a4
    have lt : nI (s 0) < nI 2 := nI_lt c (by omega)
    refine ⟨M4, fun Q => ?_, K4⟩
    by_cases d0 : m = 0
    · rw [show wV s m 0 = -1000000001 from if_pos (Or.inl d0)] at a1
      have z : (nI m = 0) = True := eq_true (by rw [d0]; exact nI_0)
      simp only [k98_0, k98_1, k98_3, k98_6, k98_7, k98_8, k98_9, k98_10, k98_13, k98_14, k98_15, k98_16, k98_17, k98_20, k98_22, k98_23, k98_24, k98_26, k98_29, k98_30, k98_32, k98_33, k98_34, k98_37, k98_39, k98_40, k98_41, k98_44, k98_45, k98_48, k98_49, k98_50, k98_53, k98_54, k98_56, k98_59, k98_61, k98_64, k98_66, k98_69, k98_71, k98_73, k98_76, k98_77, k98_78, k98_81, k98_83, k98_86, k98_87, k98_90, k98_91, rf_s, pushR_s, pushR_n, le4_0, le4_1, le4_2, le4_3, le4_4, isLong_n, isLong_i, isLong_r, isLong_f, if_true, if_false, not_true_eq_false, not_false_eq_true, isI_0, isI_9, isAr_0, isAr_1, isAr_2, isAr_9, okR_i, okR_0, okR_1, putI_0, putI_b0, putI_b1, nI_10, nI_00, Nat.reduceLT, Nat.reduceLeDiff, nI_add, upM_s, upI_s, pk_mul, nf_at, t0, l7, a1, a2, a3, a4, cnt_20 K2, cnt_0 K3, lt, z, eq_self]
    · have z : ¬ nI m = 0 := nI_ne0 (by omega) (by omega)
      by_cases d6 : m = 6
      · rw [show wV s m 0 = -1000000001 from if_pos (Or.inr d6)] at a1
        have z6 : (nI m = nI 6) = True := eq_true (by rw [d6])
        simp only [k98_0, k98_1, k98_3, k98_6, k98_7, k98_8, k98_9, k98_10, k98_13, k98_14, k98_15, k98_16, k98_17, k98_20, k98_22, k98_23, k98_24, k98_26, k98_29, k98_30, k98_32, k98_33, k98_34, k98_37, k98_39, k98_40, k98_41, k98_44, k98_45, k98_48, k98_49, k98_50, k98_53, k98_54, k98_56, k98_59, k98_61, k98_64, k98_66, k98_69, k98_71, k98_73, k98_76, k98_77, k98_78, k98_81, k98_83, k98_86, k98_87, k98_90, k98_91, rf_s, pushR_s, pushR_n, le4_0, le4_1, le4_2, le4_3, le4_4, isLong_n, isLong_i, isLong_r, isLong_f, if_true, if_false, not_true_eq_false, not_false_eq_true, isI_0, isI_9, isAr_0, isAr_1, isAr_2, isAr_9, okR_i, okR_0, okR_1, putI_0, putI_b0, putI_b1, nI_10, nI_00, Nat.reduceLT, Nat.reduceLeDiff, nI_add, upM_s, upI_s, pk_mul, nf_at, t0, l7, a1, a2, a3, a4, cnt_20 K2, cnt_0 K3, lt, z, z6, eq_self]
      · have z6 : ¬ nI m = nI 6 := ne_n (by omega) (by omega) d6
        rw [show wV s m 0 = -1000000002 from by unfold wV; rw [if_neg (by omega), if_pos c]] at a1
        simp only [k98_0, k98_1, k98_3, k98_6, k98_7, k98_8, k98_9, k98_10, k98_13, k98_14, k98_15, k98_16, k98_17, k98_20, k98_22, k98_23, k98_24, k98_26, k98_29, k98_30, k98_32, k98_33, k98_34, k98_37, k98_39, k98_40, k98_41, k98_44, k98_45, k98_48, k98_49, k98_50, k98_53, k98_54, k98_56, k98_59, k98_61, k98_64, k98_66, k98_69, k98_71, k98_73, k98_76, k98_77, k98_78, k98_81, k98_83, k98_86, k98_87, k98_90, k98_91, rf_s, pushR_s, pushR_n, le4_0, le4_1, le4_2, le4_3, le4_4, isLong_n, isLong_i, isLong_r, isLong_f, if_true, if_false, not_true_eq_false, not_false_eq_true, isI_0, isI_9, isAr_0, isAr_1, isAr_2, isAr_9, okR_i, okR_0, okR_1, putI_0, putI_b0, putI_b1, nI_10, nI_00, Nat.reduceLT, Nat.reduceLeDiff, nI_add, upM_s, upI_s, pk_mul, nf_at, t0, l7, a1, a2, a3, a4, cnt_20 K2, cnt_0 K3, lt, z, z6, eq_self]
  · rw [show anV s 0 = nI (aAnt s 0) from if_neg c] at a3
    rw [show gV s 0 = nI (gW s).1 from if_neg c] at a5
    have lt : ¬ nI (s 0) < nI 2 := nI_nlt (by omega) (by omega)
    have fin : ∀ l1 l2 l3 l4 l5, ∃ M', (∀ Q, wp 98 155 [some (.ref 0), l1, l2, l3, l4, l5, some (.int (nI (aAnt s 0))), some (.int (nI (gW s).1)), some (.int (nI 1))] [] σ M5 Q = Q (some (.int (nI 1))) σ M') ∧ Lw L xs σ M' s H n len T B := fun l1 l2 l3 l4 l5 => wd2 K5 (by omega) l1 l2 l3 l4 l5
    by_cases d : m = 0 ∨ m = 6
    · rw [show wV s m 0 = -1000000001 from if_pos d] at a1
      rw [show wV s m 1 = -1000000001 from if_pos d] at a2
      obtain ⟨M6, a6, K6⟩ := fin (some (.int v)) (some (.int (nI m))) (some (.int (-1000000001))) (some (.int (-1000000001))) (some (.int (nI (m * s 13))))
      refine ⟨M6, fun Q => ?_, K6⟩
      refine Eq.trans ?_ (a6 Q)
      by_cases d0 : m = 0
      · have z : (nI m = 0) = True := eq_true (by rw [d0]; exact nI_0)
        simp only [k98_0, k98_1, k98_3, k98_6, k98_7, k98_8, k98_9, k98_10, k98_13, k98_14, k98_15, k98_16, k98_17, k98_20, k98_22, k98_23, k98_24, k98_26, k98_29, k98_30, k98_32, k98_33, k98_34, k98_37, k98_39, k98_40, k98_41, k98_44, k98_45, k98_92, k98_93, k98_94, k98_97, k98_99, k98_100, k98_103, k98_104, k98_106, k98_109, k98_110, k98_112, k98_115, k98_117, k98_119, k98_122, k98_123, k98_126, k98_127, k98_130, k98_131, k98_134, k98_136, k98_139, k98_140, k98_142, k98_143, k98_145, k98_148, k98_149, k98_152, k98_153, rf_s, pushR_s, pushR_n, le4_0, le4_1, le4_2, le4_3, le4_4, isLong_n, isLong_i, isLong_r, isLong_f, if_true, if_false, not_true_eq_false, not_false_eq_true, isI_0, isI_9, isAr_0, isAr_1, isAr_2, isAr_9, okR_i, okR_0, okR_1, putI_0, putI_b0, putI_b1, nI_10, nI_00, Nat.reduceLT, Nat.reduceLeDiff, nI_add, upM_s, upI_s, pk_mul, nf_at, t0, l7, a1, a2, a3, a5, cnt_20 K2, cnt_0 K3, lt, z, eq_self]
      · have z : ¬ nI m = 0 := nI_ne0 (by omega) (by omega)
        have z6 : (nI m = nI 6) = True := eq_true (by rw [show m = 6 by omega])
        simp only [k98_0, k98_1, k98_3, k98_6, k98_7, k98_8, k98_9, k98_10, k98_13, k98_14, k98_15, k98_16, k98_17, k98_20, k98_22, k98_23, k98_24, k98_26, k98_29, k98_30, k98_32, k98_33, k98_34, k98_37, k98_39, k98_40, k98_41, k98_44, k98_45, k98_92, k98_93, k98_94, k98_97, k98_99, k98_100, k98_103, k98_104, k98_106, k98_109, k98_110, k98_112, k98_115, k98_117, k98_119, k98_122, k98_123, k98_126, k98_127, k98_130, k98_131, k98_134, k98_136, k98_139, k98_140, k98_142, k98_143, k98_145, k98_148, k98_149, k98_152, k98_153, rf_s, pushR_s, pushR_n, le4_0, le4_1, le4_2, le4_3, le4_4, isLong_n, isLong_i, isLong_r, isLong_f, if_true, if_false, not_true_eq_false, not_false_eq_true, isI_0, isI_9, isAr_0, isAr_1, isAr_2, isAr_9, okR_i, okR_0, okR_1, putI_0, putI_b0, putI_b1, nI_10, nI_00, Nat.reduceLT, Nat.reduceLeDiff, nI_add, upM_s, upI_s, pk_mul, nf_at, t0, l7, a1, a2, a3, a5, cnt_20 K2, cnt_0 K3, lt, z, z6, eq_self]
    · obtain ⟨f, h, r1, r2, r3, r4, r5, r6⟩ := would_ok i K.ex (by omega) pj (n := m) (by omega)
      rw [show wV s m 0 = nI f from by unfold wV; rw [if_neg d, if_neg c, r1]] at a1
      rw [show wV s m 1 = nI h from by unfold wV; rw [if_neg d, if_neg c, r2]] at a2
      obtain ⟨M6, a6, K6⟩ := fin (some (.int v)) (some (.int (nI m))) (some (.int (nI f))) (some (.int (nI h))) (some (.int (nI (m * s 13))))
      refine ⟨M6, fun Q => ?_, K6⟩
      refine Eq.trans ?_ (a6 Q)
      have z : ¬ nI m = 0 := nI_ne0 (by omega) (by omega)
      have z6 : ¬ nI m = nI 6 := ne_n (by omega) (by omega) (by omega)
      have y1 : ¬ nI f < 0 := nI_pos (by omega)
      have y2 : ¬ nI h < 0 := nI_pos (by omega)
      have y3 : ¬ nI (m * s 13) < nI (f + h) := nI_nlt (by omega) (by omega)
      simp only [k98_0, k98_1, k98_3, k98_6, k98_7, k98_8, k98_9, k98_10, k98_13, k98_14, k98_15, k98_16, k98_17, k98_20, k98_22, k98_23, k98_24, k98_26, k98_29, k98_30, k98_32, k98_33, k98_34, k98_37, k98_39, k98_40, k98_41, k98_44, k98_45, k98_92, k98_93, k98_94, k98_97, k98_99, k98_100, k98_103, k98_104, k98_106, k98_109, k98_110, k98_112, k98_115, k98_117, k98_119, k98_122, k98_123, k98_126, k98_127, k98_130, k98_131, k98_134, k98_136, k98_139, k98_140, k98_142, k98_143, k98_145, k98_148, k98_149, k98_152, k98_153, rf_s, pushR_s, pushR_n, le4_0, le4_1, le4_2, le4_3, le4_4, isLong_n, isLong_i, isLong_r, isLong_f, if_true, if_false, not_true_eq_false, not_false_eq_true, isI_0, isI_9, isAr_0, isAr_1, isAr_2, isAr_9, okR_i, okR_0, okR_1, putI_0, putI_b0, putI_b1, nI_10, nI_00, Nat.reduceLT, Nat.reduceLeDiff, nI_add, upM_s, upI_s, pk_mul, nf_at, t0, l7, a1, a2, a3, a5, cnt_20 K2, cnt_0 K3, lt, z, z6, y1, y2, y3, eq_self]
end WOU
