/-! the law's loop -/
section LAW
variable {L : Nat} {xs : Nat → Int32} {σ τ : Sg} {M M' : Mem} {I : Nat → Nat} {s s' : Nat → Nat} {H H' : Nat → Nat → Nat} {n n' len B : Nat} {T : Nat → Nat} {r : Int32}
theorem cmp_r (x : Int64) : lg_cmp x x = 0 := by
  unfold lg_cmp
  simp
theorem rem_k {k d : Nat} (hk : k < 1000) (h0 : 0 < d) (hd : d < 1000) : nI k - nI k / nI d * nI d = nI (k % d) := pk_rem (by omega) h0 (by omega)
/-- x of an act -/
theorem sx (K : Lw L xs σ M s H n len T B) (hL : L ≤ 260) {k : Nat} (hk : k < 48) (l1 l2 l4 l5 l6 l7 l8 l9 l10 : Option Value) : ∃ v, ∀ Q, wp 0 50 [some (.ref 1003), l1, l2, some (.int (nI k)), l4, l5, l6, l7, l8, l9, l10] [] σ M Q = wp 0 78 [some (.ref 1003), l1, l2, some (.int (nI k)), some (.int v), l5, l6, l7, l8, l9, l10] [] σ M Q := by
  by_cases c1 : k < 4
  · have y1 : nI k < nI 4 := nI_lt c1 (by omega)
    refine ⟨nI 0, fun Q => ?_⟩
    simp only [k0_50, k0_51, k0_52, k0_55, k0_56, k0_59, k0_60, k0_62, k0_65, k0_66, k0_69, k0_70, k0_71, k0_72, k0_73, k0_76, rf_s, pushR_s, pushR_n, le4_0, le4_1, le4_2, le4_3, le4_4, isLong_n, isLong_i, isLong_r, isLong_f, if_true, if_false, not_true_eq_false, not_false_eq_true, isI_0, isI_9, isAr_0, isAr_1, isAr_2, isAr_9, okR_i, okR_0, okR_1, putI_0, putI_b0, putI_b1, nI_10, nI_00, Nat.reduceLT, Nat.reduceLeDiff, nI_add, upM_s, upI_s, pk_mul, nf_at, y1]
  · have y1 : ¬ nI k < nI 4 := nI_nlt (by omega) (by omega)
    by_cases c2 : k < 9
    · have y2 : nI k < nI 9 := nI_lt c2 (by omega)
      refine ⟨nI 2, fun Q => ?_⟩
      simp only [k0_50, k0_51, k0_52, k0_55, k0_56, k0_59, k0_60, k0_62, k0_65, k0_66, k0_69, k0_70, k0_71, k0_72, k0_73, k0_76, rf_s, pushR_s, pushR_n, le4_0, le4_1, le4_2, le4_3, le4_4, isLong_n, isLong_i, isLong_r, isLong_f, if_true, if_false, not_true_eq_false, not_false_eq_true, isI_0, isI_9, isAr_0, isAr_1, isAr_2, isAr_9, okR_i, okR_0, okR_1, putI_0, putI_b0, putI_b1, nI_10, nI_00, Nat.reduceLT, Nat.reduceLeDiff, nI_add, upM_s, upI_s, pk_mul, nf_at, y1, y2]
    · have y2 : ¬ nI k < nI 9 := nI_nlt (by omega) (by omega)
      obtain ⟨v, a⟩ := l94 K hL (k := 2 * k) (by omega)
      refine ⟨v, fun Q => ?_⟩
      simp only [k0_50, k0_51, k0_52, k0_55, k0_56, k0_59, k0_60, k0_62, k0_65, k0_66, k0_69, k0_70, k0_71, k0_72, k0_73, k0_76, rf_s, pushR_s, pushR_n, le4_0, le4_1, le4_2, le4_3, le4_4, isLong_n, isLong_i, isLong_r, isLong_f, if_true, if_false, not_true_eq_false, not_false_eq_true, isI_0, isI_9, isAr_0, isAr_1, isAr_2, isAr_9, okR_i, okR_0, okR_1, putI_0, putI_b0, putI_b1, nI_10, nI_00, Nat.reduceLT, Nat.reduceLeDiff, nI_add, upM_s, upI_s, pk_mul, nf_at, y1, y2, a]
/-- holds, now and then -/
theorem sh (K : Lw L xs σ M s H n len T B) (hB : B < 1000000) {k : Nat} (hk : k < 48) (l0 l2 l4 l5 l6 l7 l8 l9 l10 : Option Value) : ∃ M', (∀ Q, wp 0 114 [l0, some (.ref 0), l2, some (.int (nI k)), l4, l5, l6, l7, l8, l9, l10] [] σ M Q = wp 0 127 [l0, some (.ref 0), l2, some (.int (nI k)), l4, l5, l6, l7, l8, l9, l10] [] σ M' Q) ∧ Lw L xs σ M' s H n len T B := by
  have r3 := rem_k (k := k) (d := 3) (by omega) (by omega) (by omega)
  have z3 : ¬ nI 3 = 0 := nI_ne0 (by omega) (by omega)
  by_cases c : k % 3 = 0
  · obtain ⟨M1, a1, K1⟩ := l97 K hB
    have y : ¬ 0 < nI (k % 3) := by
      rw [c, nI_0]
      decide
    refine ⟨M1, fun Q => ?_, K1⟩
    simp only [k0_114, k0_115, k0_116, k0_117, k0_120, k0_121, k0_124, rf_s, pushR_s, pushR_n, le4_0, le4_1, le4_2, le4_3, le4_4, isLong_n, isLong_i, isLong_r, isLong_f, if_true, if_false, not_true_eq_false, not_false_eq_true, isI_0, isI_9, isAr_0, isAr_1, isAr_2, isAr_9, okR_i, okR_0, okR_1, putI_0, putI_b0, putI_b1, nI_10, nI_00, Nat.reduceLT, Nat.reduceLeDiff, nI_add, upM_s, upI_s, pk_mul, nf_at, z3, r3, y, a1]
  · have y : 0 < nI (k % 3) := by
      have q := nI_lt (a := 0) (b := k % 3) (by omega) (by omega)
      rw [nI_0] at q
      exact q
    refine ⟨M, fun Q => ?_, K⟩
    simp only [k0_114, k0_115, k0_116, k0_117, k0_120, k0_121, k0_124, rf_s, pushR_s, pushR_n, le4_0, le4_1, le4_2, le4_3, le4_4, isLong_n, isLong_i, isLong_r, isLong_f, if_true, if_false, not_true_eq_false, not_false_eq_true, isI_0, isI_9, isAr_0, isAr_1, isAr_2, isAr_9, okR_i, okR_0, okR_1, putI_0, putI_b0, putI_b1, nI_10, nI_00, Nat.reduceLT, Nat.reduceLeDiff, nI_add, upM_s, upI_s, pk_mul, nf_at, z3, r3, y]
/-- would, now and then -/
theorem sw (K : Lw L xs σ M s H n len T B) {k : Nat} (hk : k < 48) (y : Int32) (l0 l2 l4 l6 l7 l8 l9 l10 : Option Value) : ∃ M', (∀ Q, wp 0 127 [l0, some (.ref 0), l2, some (.int (nI k)), l4, some (.int y), l6, l7, l8, l9, l10] [] σ M Q = wp 0 150 [l0, some (.ref 0), some (.int (nI 1)), some (.int (nI k)), l4, some (.int y), l6, l7, l8, l9, l10] [] σ M' Q) ∧ Lw L xs σ M' s H n len T B := by
  have r6 := rem_k (k := k) (d := 6) (by omega) (by omega) (by omega)
  have z6 : ¬ nI 6 = 0 := nI_ne0 (by omega) (by omega)
  by_cases c : k % 6 = 4
  · obtain ⟨M1, a1, K1⟩ := l98 K y
    have z : (nI (k % 6) = nI 4) = True := eq_true (congrArg nI c)
    refine ⟨M1, fun Q => ?_, K1⟩
    simp only [k0_127, k0_128, k0_130, k0_131, k0_132, k0_135, k0_136, k0_138, k0_141, k0_144, k0_145, k0_148, k0_149, rf_s, pushR_s, pushR_n, le4_0, le4_1, le4_2, le4_3, le4_4, isLong_n, isLong_i, isLong_r, isLong_f, if_true, if_false, not_true_eq_false, not_false_eq_true, isI_0, isI_9, isAr_0, isAr_1, isAr_2, isAr_9, okR_i, okR_0, okR_1, putI_0, putI_b0, putI_b1, nI_10, nI_00, Nat.reduceLT, Nat.reduceLeDiff, nI_add, upM_s, upI_s, pk_mul, nf_at, z6, r6, z, a1]
  · have z : ¬ nI (k % 6) = nI 4 := ne_n (by omega) (by omega) c
    refine ⟨M, fun Q => ?_, K⟩
    simp only [k0_127, k0_128, k0_130, k0_131, k0_132, k0_135, k0_136, k0_138, k0_141, k0_144, k0_145, k0_148, k0_149, rf_s, pushR_s, pushR_n, le4_0, le4_1, le4_2, le4_3, le4_4, isLong_n, isLong_i, isLong_r, isLong_f, if_true, if_false, not_true_eq_false, not_false_eq_true, isI_0, isI_9, isAr_0, isAr_1, isAr_2, isAr_9, okR_i, okR_0, okR_1, putI_0, putI_b0, putI_b1, nI_10, nI_00, Nat.reduceLT, Nat.reduceLeDiff, nI_add, upM_s, upI_s, pk_mul, nf_at, z6, r6, z]
/-- an act, its x and y; what was, and what is now -/
theorem sa1 (K : Lw L xs σ M s H n len T B) (hL : L ≤ 260) (hB : B + 400 < 1000000) {k : Nat} (hk : k < 48) (l4 l5 l6 l7 l8 l9 l10 : Option Value) : ∃ x y τ M' s' H' n' len' T', (∀ Q, wp 0 40 [some (.ref 1003), some (.ref 0), some (.int (nI 1)), some (.int (nI k)), l4, l5, l6, l7, l8, l9, l10] [] σ M Q = wp 0 150 [some (.ref 1003), some (.ref 0), some (.int (nI 1)), some (.int (nI k)), some (.int x), some (.int y), some (.long (dgS s)), none, some (.int (nI n)), l9, l10] [] τ M' Q) ∧ Lw L xs τ M' s' H' n' len' T' (B + 400) ∧ Mv s H n s' H' n' := by
  have t0 := K.t0
  have lt : nI k < nI 48 := nI_lt hk (by omega)
  obtain ⟨x, a1⟩ := sx K hL hk (some (.ref 0)) (some (.int (nI 1))) l4 l5 l6 l7 l8 l9 l10
  obtain ⟨y, a2⟩ := l94 K hL (k := 2 * k + 1) (by omega)
  obtain ⟨M1, a3, K1⟩ := l96 K
  obtain ⟨τ, M2, s', H', n', len', T', a4, K2, mv⟩ := l103 K1 x y
  obtain ⟨M3, a5, K3⟩ := sh K2 hB hk (some (.ref 1003)) (some (.int (nI 1))) (some (.int x)) (some (.int y)) (some (.long (dgS s))) none (some (.int (nI n))) l9 l10
  obtain ⟨M4, a6, K4⟩ := sw K3 hk y (some (.ref 1003)) (some (.int (nI 1))) (some (.int x)) (some (.long (dgS s))) none (some (.int (nI n))) l9 l10
  refine ⟨x, y, τ, M4, s', H', n', len', T', fun Q => ?_, K4, mv⟩
  rw [k0_40]
  simp only [k0_41, k0_43, k0_46, k0_47, rf_s, pushR_s, pushR_n, le4_0, le4_1, le4_2, le4_3, le4_4, isLong_n, isLong_i, isLong_r, isLong_f, if_true, if_false, not_true_eq_false, not_false_eq_true, isI_0, isI_9, isAr_0, isAr_1, isAr_2, isAr_9, okR_i, okR_0, okR_1, putI_0, putI_b0, putI_b1, nI_10, nI_00, Nat.reduceLT, Nat.reduceLeDiff, nI_add, upM_s, upI_s, pk_mul, nf_at, lt]
  rw [a1]
  simp only [k0_78, k0_79, k0_80, k0_81, k0_82, k0_83, k0_84, k0_87, k0_89, k0_90, k0_93, k0_95, k0_96, k0_98, k0_101, k0_103, k0_104, k0_106, k0_108, k0_111, rf_s, pushR_s, pushR_n, le4_0, le4_1, le4_2, le4_3, le4_4, isLong_n, isLong_i, isLong_r, isLong_f, if_true, if_false, not_true_eq_false, not_false_eq_true, isI_0, isI_9, isAr_0, isAr_1, isAr_2, isAr_9, okR_i, okR_0, okR_1, putI_0, putI_b0, putI_b1, nI_10, nI_00, Nat.reduceLT, Nat.reduceLeDiff, nI_add, upM_s, upI_s, pk_mul, nf_at, t0, a2, a3, cnt_12 K1, a4]
  rw [a5, a6]
/-- now against then: what was refused left all -/
theorem sa2 (K : Lw L xs σ M s' H' n' len T B) (mv : Mv s H n s' H' n') (n4 : n ≤ 4) (l0 l3 l4 l5 l7 l9 l10 : Option Value) : ∃ M', (∀ Q, wp 0 150 [l0, some (.ref 0), some (.int (nI 1)), l3, l4, l5, some (.long (dgS s)), l7, some (.int (nI n)), l9, l10] [] σ M Q = wp 0 200 [l0, some (.ref 0), some (.int (nI 1)), l3, l4, l5, some (.long (dgS s)), l7, some (.int (nI n)), some (.int (nI n')), l10] [] σ M' Q) ∧ Lw L xs σ M' s' H' n' len T B := by
  have t0 := K.t0
  have c12 := cnt_12 K
  rcases mv with ⟨e1, e2, e3⟩ | ⟨e1, e2⟩
  · subst e1 e2 e3
    by_cases c : n' = 4
    · have z : (nI n' = nI 4) = True := eq_true (congrArg nI c)
      refine ⟨M, fun Q => ?_, K⟩
      simp only [k0_150, k0_151, k0_153, k0_156, k0_158, k0_159, k0_162, k0_164, k0_166, k0_169, k0_171, k0_172, k0_175, k0_176, k0_179, k0_181, k0_182, k0_185, k0_187, k0_189, k0_190, k0_191, k0_194, k0_195, k0_198, k0_199, rf_s, pushR_s, pushR_n, le4_0, le4_1, le4_2, le4_3, le4_4, isLong_n, isLong_i, isLong_r, isLong_f, if_true, if_false, not_true_eq_false, not_false_eq_true, isI_0, isI_9, isAr_0, isAr_1, isAr_2, isAr_9, okR_i, okR_0, okR_1, putI_0, putI_b0, putI_b1, nI_10, nI_00, Nat.reduceLT, Nat.reduceLeDiff, nI_add, upM_s, upI_s, pk_mul, nf_at, t0, c12, z, eq_self]
    · have z : ¬ nI n' = nI 4 := ne_n (by omega) (by omega) c
      obtain ⟨M1, a1, K1⟩ := l96 K
      have y : (lg_cmp (dgS s') (dgS s') = 0) = True := eq_true (cmp_r _)
      refine ⟨M1, fun Q => ?_, K1⟩
      simp only [k0_150, k0_151, k0_153, k0_156, k0_158, k0_159, k0_162, k0_164, k0_166, k0_169, k0_171, k0_172, k0_175, k0_176, k0_179, k0_181, k0_182, k0_185, k0_187, k0_189, k0_190, k0_191, k0_194, k0_195, k0_198, k0_199, rf_s, pushR_s, pushR_n, le4_0, le4_1, le4_2, le4_3, le4_4, isLong_n, isLong_i, isLong_r, isLong_f, if_true, if_false, not_true_eq_false, not_false_eq_true, isI_0, isI_9, isAr_0, isAr_1, isAr_2, isAr_9, okR_i, okR_0, okR_1, putI_0, putI_b0, putI_b1, nI_10, nI_00, Nat.reduceLT, Nat.reduceLeDiff, nI_add, upM_s, upI_s, pk_mul, nf_at, t0, c12, z, a1, y, eq_self]
  · by_cases c : n < 4
    · have e : n' = n + 1 := by
        rw [e2]
        unfold pN
        rw [if_pos c]
      subst e
      have z : ¬ nI (n + 1) = nI n := ne_n (by omega) (by omega) (by omega)
      refine ⟨M, fun Q => ?_, K⟩
      simp only [k0_150, k0_151, k0_153, k0_156, k0_158, k0_159, k0_162, k0_164, k0_166, k0_169, k0_171, k0_172, k0_175, k0_176, k0_179, k0_181, k0_182, k0_185, k0_187, k0_189, k0_190, k0_191, k0_194, k0_195, k0_198, k0_199, rf_s, pushR_s, pushR_n, le4_0, le4_1, le4_2, le4_3, le4_4, isLong_n, isLong_i, isLong_r, isLong_f, if_true, if_false, not_true_eq_false, not_false_eq_true, isI_0, isI_9, isAr_0, isAr_1, isAr_2, isAr_9, okR_i, okR_0, okR_1, putI_0, putI_b0, putI_b1, nI_10, nI_00, Nat.reduceLT, Nat.reduceLeDiff, nI_add, upM_s, upI_s, pk_mul, nf_at, t0, c12, z, eq_self]
    · have e : n' = 4 := by
        rw [e2]
        unfold pN
        rw [if_neg c]
      have e4 : n = 4 := by omega
      subst e e4
      refine ⟨M, fun Q => ?_, K⟩
      simp only [k0_150, k0_151, k0_153, k0_156, k0_158, k0_159, k0_162, k0_164, k0_166, k0_169, k0_171, k0_172, k0_175, k0_176, k0_179, k0_181, k0_182, k0_185, k0_187, k0_189, k0_190, k0_191, k0_194, k0_195, k0_198, k0_199, rf_s, pushR_s, pushR_n, le4_0, le4_1, le4_2, le4_3, le4_4, isLong_n, isLong_i, isLong_r, isLong_f, if_true, if_false, not_true_eq_false, not_false_eq_true, isI_0, isI_9, isAr_0, isAr_1, isAr_2, isAr_9, okR_i, okR_0, okR_1, putI_0, putI_b0, putI_b1, nI_10, nI_00, Nat.reduceLT, Nat.reduceLeDiff, nI_add, upM_s, upI_s, pk_mul, nf_at, t0, c12, eq_self]
/-- what is undone is as it was -/
theorem sa3 (K : Lw L xs σ M s' H' n' len T B) (mv : Mv s H n s' H' n') (n4 : n ≤ 4) (y : Int32) (l0 l3 l4 l7 l10 : Option Value) : ∃ M' s'' H'' n'', (∀ Q, wp 0 200 [l0, some (.ref 0), some (.int (nI 1)), l3, l4, some (.int y), some (.long (dgS s)), l7, some (.int (nI n)), some (.int (nI n')), l10] [] σ M Q = wp 0 250 [l0, some (.ref 0), some (.int (nI 1)), l3, l4, some (.int y), some (.long (dgS s)), l7, some (.int (nI n)), some (.int (nI n')), l10] [] σ M' Q) ∧ Lw L xs σ M' s'' H'' n'' len T B := by
  have t0 := K.t0
  have k4 := K.n4
  by_cases c : n' = n + 1
  · have z : (nI n' = nI (n + 1)) = True := eq_true (congrArg nI c)
    have l3' := fun Q => l95 (v := y >>> (nI 8 &&& 31)) (m := 3) (by omega) (by omega) (σ := σ) (M := M) Q
    have b3 := lw_lt (v := y >>> (nI 8 &&& 31)) (m := 3) (by omega)
    generalize lw (y >>> (nI 8 &&& 31)) 3 = q at *
    by_cases c0 : q = 0
    · have z0 : (nI q = 0) = True := eq_true (by rw [c0]; exact nI_0)
      obtain ⟨M1, a1, -, k1⟩ := e19 K
      have K1 := k1 (by omega)
      have e : H' (n' - 1) = s := by
        rcases mv with ⟨e1, e2, e3⟩ | ⟨e1, e2⟩
        · omega
        · rw [e1, pH_lt (by omega), if_pos (by omega)]
      rw [if_neg (by omega), show n' - 1 = n by omega] at a1
      rw [e] at K1
      obtain ⟨M2, a2, K2⟩ := l96 K1
      have y0 : (lg_cmp (dgS s) (dgS s) = 0) = True := eq_true (cmp_r _)
      refine ⟨M2, s, H', n' - 1, fun Q => ?_, K2⟩
      simp only [k0_200, k0_201, k0_204, k0_206, k0_208, k0_209, k0_210, k0_213, k0_215, k0_217, k0_218, k0_219, k0_222, k0_225, k0_226, k0_229, k0_231, k0_234, k0_235, k0_238, k0_240, k0_241, k0_244, k0_245, k0_248, k0_249, rf_s, pushR_s, pushR_n, le4_0, le4_1, le4_2, le4_3, le4_4, isLong_n, isLong_i, isLong_r, isLong_f, if_true, if_false, not_true_eq_false, not_false_eq_true, isI_0, isI_9, isAr_0, isAr_1, isAr_2, isAr_9, okR_i, okR_0, okR_1, putI_0, putI_b0, putI_b1, nI_10, nI_00, Nat.reduceLT, Nat.reduceLeDiff, nI_add, upM_s, upI_s, pk_mul, nf_at, t0, z, l3', z0, a1, a2, y0, eq_self]
    · have z0 : ¬ nI q = 0 := nI_ne0 (by omega) (by omega)
      refine ⟨M, s', H', n', fun Q => ?_, K⟩
      simp only [k0_200, k0_201, k0_204, k0_206, k0_208, k0_209, k0_210, k0_213, k0_215, k0_217, k0_218, k0_219, k0_222, k0_225, k0_226, k0_229, k0_231, k0_234, k0_235, k0_238, k0_240, k0_241, k0_244, k0_245, k0_248, k0_249, rf_s, pushR_s, pushR_n, le4_0, le4_1, le4_2, le4_3, le4_4, isLong_n, isLong_i, isLong_r, isLong_f, if_true, if_false, not_true_eq_false, not_false_eq_true, isI_0, isI_9, isAr_0, isAr_1, isAr_2, isAr_9, okR_i, okR_0, okR_1, putI_0, putI_b0, putI_b1, nI_10, nI_00, Nat.reduceLT, Nat.reduceLeDiff, nI_add, upM_s, upI_s, pk_mul, nf_at, t0, z, l3', z0]
  · have z : ¬ nI n' = nI (n + 1) := ne_n (by omega) (by omega) c
    refine ⟨M, s', H', n', fun Q => ?_, K⟩
    simp only [k0_200, k0_201, k0_204, k0_206, k0_208, k0_209, k0_210, k0_213, k0_215, k0_217, k0_218, k0_219, k0_222, k0_225, k0_226, k0_229, k0_231, k0_234, k0_235, k0_238, k0_240, k0_241, k0_244, k0_245, k0_248, k0_249, rf_s, pushR_s, pushR_n, le4_0, le4_1, le4_2, le4_3, le4_4, isLong_n, isLong_i, isLong_r, isLong_f, if_true, if_false, not_true_eq_false, not_false_eq_true, isI_0, isI_9, isAr_0, isAr_1, isAr_2, isAr_9, okR_i, okR_0, okR_1, putI_0, putI_b0, putI_b1, nI_10, nI_00, Nat.reduceLT, Nat.reduceLeDiff, nI_add, upM_s, upI_s, pk_mul, nf_at, t0, z]
/-- each eleventh time something is undone -/
theorem sa4 (K : Lw L xs σ M s H n len T B) {k : Nat} (hk : k < 48) (l0 l4 l5 l6 l7 l8 l9 l10 : Option Value) (h9 : isLong l9 = false) : ∃ M' s'' H'' n'' l10', (∀ Q, wp 0 250 [l0, some (.ref 0), some (.int (nI 1)), some (.int (nI k)), l4, l5, l6, l7, l8, l9, l10] [] σ M Q = wp 0 40 [l0, some (.ref 0), some (.int (nI 1)), some (.int (nI (k + 1))), l4, l5, l6, l7, l8, l9, l10'] [] σ M' Q) ∧ Lw L xs σ M' s'' H'' n'' len T B := by
  have t0 := K.t0
  have n4 := K.n4
  have r11 := rem_k (k := k) (d := 11) (by omega) (by omega) (by omega)
  have z11 : ¬ nI 11 = 0 := nI_ne0 (by omega) (by omega)
  by_cases c : k % 11 = 10
  · have z : (nI (k % 11) = nI 10) = True := eq_true (congrArg nI c)
    have c12 := cnt_12 K
    obtain ⟨M1, a1, k0, k1⟩ := e19 K
    by_cases c0 : n = 0
    · have z0 : (nI n = 0) = True := eq_true (by rw [c0]; exact nI_0)
      rw [if_pos c0] at a1
      refine ⟨M1, s, H, n, some (.int (nI n)), fun Q => ?_, k0 c0⟩
      simp only [k0_250, k0_251, k0_254, k0_255, k0_257, k0_258, k0_260, k0_263, k0_264, k0_266, k0_269, k0_271, k0_272, k0_275, k0_277, k0_280, k0_282, k0_285, k0_287, k0_288, k0_289, k0_292, k0_293, k0_296, k0_297, k0_298, k0_301, rf_s, pushR_s, pushR_n, le4_0, le4_1, le4_2, le4_3, le4_4, isLong_n, isLong_i, isLong_r, isLong_f, if_true, if_false, not_true_eq_false, not_false_eq_true, isI_0, isI_9, isAr_0, isAr_1, isAr_2, isAr_9, okR_i, okR_0, okR_1, putI_0, putI_b0, putI_b1, nI_10, nI_00, Nat.reduceLT, Nat.reduceLeDiff, nI_add, upM_s, upI_s, pk_mul, nf_at, h9, t0, z11, r11, z, c12, z0, a1, eq_self]
    · have z0 : ¬ nI n = 0 := nI_ne0 (by omega) (by omega)
      rw [if_neg c0] at a1
      have sb : nI n - nI 1 = nI (n - 1) := pk_sub (by omega)
      refine ⟨M1, _, H, n - 1, some (.int (nI n)), fun Q => ?_, k1 c0⟩
      simp only [k0_250, k0_251, k0_254, k0_255, k0_257, k0_258, k0_260, k0_263, k0_264, k0_266, k0_269, k0_271, k0_272, k0_275, k0_277, k0_280, k0_282, k0_285, k0_287, k0_288, k0_289, k0_292, k0_293, k0_296, k0_297, k0_298, k0_301, rf_s, pushR_s, pushR_n, le4_0, le4_1, le4_2, le4_3, le4_4, isLong_n, isLong_i, isLong_r, isLong_f, if_true, if_false, not_true_eq_false, not_false_eq_true, isI_0, isI_9, isAr_0, isAr_1, isAr_2, isAr_9, okR_i, okR_0, okR_1, putI_0, putI_b0, putI_b1, nI_10, nI_00, Nat.reduceLT, Nat.reduceLeDiff, nI_add, upM_s, upI_s, pk_mul, nf_at, h9, t0, z11, r11, z, c12, z0, a1, sb, eq_self]
  · have z : ¬ nI (k % 11) = nI 10 := ne_n (by omega) (by omega) c
    refine ⟨M, s, H, n, l10, fun Q => ?_, K⟩
    simp only [k0_250, k0_251, k0_254, k0_255, k0_257, k0_258, k0_260, k0_263, k0_264, k0_266, k0_269, k0_271, k0_272, k0_275, k0_277, k0_280, k0_282, k0_285, k0_287, k0_288, k0_289, k0_292, k0_293, k0_296, k0_297, k0_298, k0_301, rf_s, pushR_s, pushR_n, le4_0, le4_1, le4_2, le4_3, le4_4, isLong_n, isLong_i, isLong_r, isLong_f, if_true, if_false, not_true_eq_false, not_false_eq_true, isI_0, isI_9, isAr_0, isAr_1, isAr_2, isAr_9, okR_i, okR_0, okR_1, putI_0, putI_b0, putI_b1, nI_10, nI_00, Nat.reduceLT, Nat.reduceLeDiff, nI_add, upM_s, upI_s, pk_mul, nf_at, t0, z11, r11, z]
theorem lend (K : Lw L xs σ M s H n len T B) (hB : B < 1000000) (l4 l5 l6 l7 l8 l9 l10 : Option Value) : wp 0 40 [some (.ref 1003), some (.ref 0), some (.int (nI 1)), some (.int (nI 48)), l4, l5, l6, l7, l8, l9, l10] [] σ M qEnd := by
  have t0 := K.t0
  obtain ⟨M1, a1, K1⟩ := l97 K hB
  have lt : ¬ nI 48 < nI 48 := nI_nlt (Nat.le_refl _) (by omega)
  rw [k0_40]
  simp only [k0_41, k0_43, k0_304, k0_305, k0_308, k0_309, k0_312, k0_315, k0_316, k0_319, k0_320, rf_s, pushR_s, pushR_n, le4_0, le4_1, le4_2, le4_3, le4_4, isLong_n, isLong_i, isLong_r, isLong_f, if_true, if_false, not_true_eq_false, not_false_eq_true, isI_0, isI_9, isAr_0, isAr_1, isAr_2, isAr_9, okR_i, okR_0, okR_1, putI_0, putI_b0, putI_b1, nI_10, nI_00, Nat.reduceLT, Nat.reduceLeDiff, nI_add, upM_s, upI_s, pk_mul, nf_at, lt, a1]
  exact ⟨rfl, K1.2.2.2.2.2.2.2.2.1, K1.2.2.2.2.2.2.2.2.2⟩
theorem loop (hL : L ≤ 260) : ∀ (f k : Nat) (σ : Sg) (M : Mem) (s : Nat → Nat) (H : Nat → Nat → Nat) (n len : Nat) (T : Nat → Nat) (l4 l5 l6 l7 l8 l9 l10 : Option Value), k + f = 48 → Lw L xs σ M s H n len T (400 * k) → wp 0 40 [some (.ref 1003), some (.ref 0), some (.int (nI 1)), some (.int (nI k)), l4, l5, l6, l7, l8, l9, l10] [] σ M qEnd
  | 0, k, σ, M, s, H, n, len, T, l4, l5, l6, l7, l8, l9, l10, hk, K => by
    have e : k = 48 := by omega
    subst e
    exact lend K (by omega) l4 l5 l6 l7 l8 l9 l10
  | f + 1, k, σ, M, s, H, n, len, T, l4, l5, l6, l7, l8, l9, l10, hk, K => by
    have n4 := K.n4
    obtain ⟨x, y, τ, M1, s1', H1, n1, len1, T1, a1, K1, mv⟩ := sa1 K hL (k := k) (by omega) (by omega) l4 l5 l6 l7 l8 l9 l10
    obtain ⟨M2, a2, K2⟩ := sa2 K1 mv n4 (some (.ref 1003)) (some (.int (nI k))) (some (.int x)) (some (.int y)) none l9 l10
    obtain ⟨M3, s3', H3, n3, a3, K3⟩ := sa3 K2 mv n4 y (some (.ref 1003)) (some (.int (nI k))) (some (.int x)) none l10
    obtain ⟨M4, s4', H4, n4', l10', a4, K4⟩ := sa4 K3 (k := k) (by omega) (some (.ref 1003)) (some (.int x)) (some (.int y)) (some (.long (dgS s))) none (some (.int (nI n))) (some (.int (nI n1))) l10 rfl
    rw [a1, a2, a3, a4]
    have K5 := K4.up (B' := 400 * (k + 1)) (by omega)
    exact loop hL f (k + 1) τ M4 s4' H4 n4' len1 T1 _ _ _ _ _ _ _ (by omega) K5
/-- the law from behind the constructor -/
theorem from8 (hL : L ≤ 260) (K : Lw L xs σ M s H 0 len T 0) : wp 0 8 [some (.ref 1003), some (.ref 0), none, none, none, none, none, none, none, none, none] [] σ M qEnd := by
  have t0 := K.t0
  obtain ⟨M1, a1, K1⟩ := l97 K (by omega)
  obtain ⟨M2, a2, K2⟩ := l98 K1 (nI 0)
  obtain ⟨M3, a3, k3, -⟩ := e19 K2
  have K3 := k3 rfl
  rw [if_pos rfl] at a3
  have h := loop hL 48 0 σ M3 s H 0 len T none none none none none none none (by omega) K3
  simp only [k0_8, k0_9, k0_12, k0_15, k0_16, k0_17, k0_20, k0_23, k0_24, k0_27, k0_29, k0_32, k0_33, k0_36, k0_37, k0_38, k0_39, rf_s, pushR_s, pushR_n, le4_0, le4_1, le4_2, le4_3, le4_4, isLong_n, isLong_i, isLong_r, isLong_f, if_true, if_false, not_true_eq_false, not_false_eq_true, isI_0, isI_9, isAr_0, isAr_1, isAr_2, isAr_9, okR_i, okR_0, okR_1, putI_0, putI_b0, putI_b1, nI_10, nI_00, Nat.reduceLT, Nat.reduceLeDiff, nI_add, upM_s, upI_s, pk_mul, nf_at, t0, a1, a2, a3, eq_self]
  exact h
end LAW
