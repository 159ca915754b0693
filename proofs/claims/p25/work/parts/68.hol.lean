/-! the law's holds: it is always so -/
section HOL
variable {L : Nat} {xs : Nat → Int32} {σ : Sg} {M : Mem} {s : Nat → Nat} {H : Nat → Nat → Nat} {n len B : Nat} {T : Nat → Nat}
theorem pa (K : Lw L xs σ M s H n len T B) {k w : Nat} (hk : k < s 1) (hw : w < 5) (Q : Po) : wp 9 0 [some (.ref 0), some (.int (nI k)), some (.int (nI w))] [] σ M Q = Q (some (.int (nI (s (30 + 6 * k + w))))) σ M := by
  have e : aPath s k w = s (30 + 6 * k + w) := if_pos hw
  rw [← e]
  exact e9 K hk (by omega) Q
theorem pa6 (K : Lw L xs σ M s H n len T B) {k : Nat} (hk : k < s 1) (Q : Po) : wp 9 0 [some (.ref 0), some (.int (nI k)), some (.int (nI 6))] [] σ M Q = Q (some (.int (nI (s (30 + 6 * k + 5))))) σ M := e9 K hk (w := 6) (by omega) Q
theorem pd (K : Lw L xs σ M s H n len T B) {p : Nat} (hp : p < s 0) : ∃ M', (∀ Q, wp 10 0 [some (.ref 0), some (.int (nI p)), some (.int (nI 3))] [] σ M Q = Q (some (.int (dist s p))) σ M') ∧ Lw L xs σ M' s H n len T B := e10 K hp (w := 3) (by omega)
theorem pc1 (K : Lw L xs σ M s H n len T B) {p : Nat} (hp : p < s 0) : ∃ M', (∀ Q, wp 10 0 [some (.ref 0), some (.int (nI p)), some (.int (nI 1))] [] σ M Q = Q (some (.int (nI (s (126 + 2 * p + 0))))) σ M') ∧ Lw L xs σ M' s H n len T B := e10 K hp (w := 1) (by omega)
theorem pc2 (K : Lw L xs σ M s H n len T B) {p : Nat} (hp : p < s 0) : ∃ M', (∀ Q, wp 10 0 [some (.ref 0), some (.int (nI p)), some (.int (nI 2))] [] σ M Q = Q (some (.int (nI (s (126 + 2 * p + 1))))) σ M') ∧ Lw L xs σ M' s H n len T B := e10 K hp (w := 2) (by omega)
def wnt (s : Nat → Nat) (k : Nat) : Nat := s (30 + 6 * k + 5)
def cme (s : Nat → Nat) (p : Nat) : Nat := s (126 + 2 * p + 0)
def stk (s : Nat → Nat) (p : Nat) : Nat := s (126 + 2 * p + 1)
theorem far_sub {a b l : Nat} (ha : a ≤ 1000) (hb : b ≤ 1000) (hl : l ≤ 20) (h : a ≤ b + l) : ¬ nI l < nI a - nI b := fun q => by
  have h1 := Int32.lt_iff_toInt_lt.1 q
  rw [pk_sub_toInt (by omega) (by omega), nI_toInt (by omega)] at h1
  omega
theorem hd1 (K : Lw L xs σ M s H n len T B) : ∀ k, k ≤ s 1 → ∃ M' l7 l8 l9 l10, (∀ Q, wp 97 23 [some (.ref 0), some (.int (nI (s 1))), some (.int (nI (s 0))), some (.int (nI 0)), some (.int (nI 0)), some (.int (nI 1)), some (.int (nI 0)), none, none, none, none] [] σ M Q = wp 97 23 [some (.ref 0), some (.int (nI (s 1))), some (.int (nI (s 0))), some (.int (nI (sumTo (trl s) k))), some (.int (nI (sumTo (wnt s) k))), some (.int (nI 1)), some (.int (nI k)), l7, l8, l9, l10] [] σ M' Q) ∧ Lw L xs σ M' s H n len T B
  | 0, _ => ⟨M, none, none, none, none, fun _ => rfl, K⟩
  | k + 1, hk => by
    obtain ⟨M1, l7, l8, l9, l10, a1, K1⟩ := hd1 K k (by omega)
    have i := K.inv
    have t0 := K.t0
    have k1 : k < s 1 := by omega
    have p := i.1.2.2 k k1
    unfold pOk at p
    have g0 := i.1.1
    have g1 := i.1.2.1
    obtain ⟨M2, a2, K2⟩ := pd K1 (p := s (30 + 6 * k + 0)) p.1
    obtain ⟨M3, a3, K3⟩ := pd K2 (p := s (30 + 6 * k + 1)) p.2.1
    obtain ⟨r, a4, hr⟩ := e13 K3 (p := s (30 + 6 * k + 0)) p.1 k1
    rw [acr_one i.1 k1] at hr
    have q0 := fun Q => pa K1 k1 (w := 0) (by omega) Q
    have q1 := fun Q => pa K1 k1 (w := 1) (by omega) Q
    have q2 := fun Q => pa K3 k1 (w := 2) (by omega) Q
    have q3 := fun Q => pa K3 k1 (w := 3) (by omega) Q
    have q4 := fun Q => pa K3 k1 (w := 4) (by omega) Q
    have q6 := pa6 K3 k1
    have h1 : nI k < nI (s 1) := nI_lt k1 (by omega)
    have h2 : ¬ nI (s (30 + 6 * k + 0)) < 0 := nI_pos (by omega)
    have h3 : ¬ nI (s (30 + 6 * k + 1)) < 0 := nI_pos (by omega)
    have h4 : nI (s (30 + 6 * k + 0)) < nI (s 0) := nI_lt p.1 (by omega)
    have h5 : nI (s (30 + 6 * k + 1)) < nI (s 0) := nI_lt p.2.1 (by omega)
    have h6 : ¬ nI (s (30 + 6 * k + 0)) = nI (s (30 + 6 * k + 1)) := fun e => p.2.2.1 ((nI_eq (by omega) (by omega)).1 e)
    have h7 : ¬ nI (s (30 + 6 * k + 3)) < nI 1 := nI_nlt (by omega) (by omega)
    refine ⟨M3, some (.int (nI (s (30 + 6 * k + 0)))), some (.int (nI (s (30 + 6 * k + 1)))), some (.int (dist s (s (30 + 6 * k + 0)))), some (.int (dist s (s (30 + 6 * k + 1)))), fun Q => ?_, K3⟩
    rw [a1, k97_23]
    by_cases c : s (30 + 6 * k + 4) = 1
    · have z1 : (nI (s (30 + 6 * k + 4)) = nI 1) = True := eq_true (congrArg nI c)
      have z2 : (r = -1000000004) = True := eq_true (hr.2 c)
      simp only [k97_25, k97_26, k97_29, k97_31, k97_34, k97_35, k97_37, k97_38, k97_41, k97_43, k97_44, k97_46, k97_47, k97_50, k97_52, k97_53, k97_55, k97_56, k97_59, k97_61, k97_62, k97_64, k97_65, k97_68, k97_70, k97_71, k97_72, k97_74, k97_75, k97_78, k97_79, k97_80, k97_82, k97_83, k97_85, k97_87, k97_90, k97_91, k97_93, k97_95, k97_98, k97_100, k97_101, k97_104, k97_106, k97_109, k97_111, k97_112, k97_115, k97_117, k97_119, k97_122, k97_123, k97_125, k97_126, k97_129, k97_130, k97_133, k97_134, k97_136, k97_137, k97_140, k97_141, k97_144, k97_146, k97_148, k97_151, k97_152, k97_155, k97_156, k97_158, k97_160, k97_163, k97_164, k97_167, k97_168, k97_171, k97_173, k97_175, k97_178, k97_180, k97_182, k97_183, k97_184, k97_186, k97_187, k97_190, k97_193, k97_195, k97_197, k97_198, k97_199, k97_201, k97_202, k97_205, k97_208, k97_209, k97_211, k97_213, k97_216, k97_218, k97_221, k97_222, k97_225, k97_226, k97_227, k97_229, k97_230, k97_233, k97_234, k97_237, k97_238, k97_241, k97_242, k97_245, k97_246, k97_249, k97_250, k97_252, k97_255, rf_s, pushR_s, pushR_n, le4_0, le4_1, le4_2, le4_3, le4_4, isLong_n, isLong_i, isLong_r, isLong_f, if_true, if_false, not_true_eq_false, not_false_eq_true, isI_0, isI_9, isAr_0, isAr_1, isAr_2, isAr_9, okR_i, okR_0, okR_1, putI_0, putI_b0, putI_b1, nI_10, nI_00, Nat.reduceLT, Nat.reduceLeDiff, nI_add, upM_s, upI_s, pk_mul, nf_at, t0, h1, h2, h3, h4, h5, h6, h7, q0, q1, q2, q3, q4, q6, a2, a3, a4, z1, z2, eq_self]
      rfl
    · have z1 : ¬ nI (s (30 + 6 * k + 4)) = nI 1 := fun e => c ((nI_eq (by omega) (by omega)).1 e)
      have z2 : ¬ r = -1000000004 := fun e => c (hr.1 e)
      obtain ⟨f1, f2, f3⟩ := tri i.1 k1 c
      by_cases d : Dr s (s 0) (s (30 + 6 * k + 0)) < 1000
      · have d' := f3.1 d
        have e1 := dist_y d
        have e2 := dist_y d'
        have z3 : ¬ dist s (s (30 + 6 * k + 0)) = -1000000004 := by rw [e1]; exact ne_nf (by omega)
        have z4 : ¬ dist s (s (30 + 6 * k + 1)) = -1000000004 := by rw [e2]; exact ne_nf (by omega)
        have z5 : ¬ nI (s (30 + 6 * k + 2)) < dist s (s (30 + 6 * k + 0)) - dist s (s (30 + 6 * k + 1)) := by rw [e1, e2]; exact far_sub (by omega) (by omega) (by omega) (by omega)
        have z6 : ¬ nI (s (30 + 6 * k + 2)) < dist s (s (30 + 6 * k + 1)) - dist s (s (30 + 6 * k + 0)) := by rw [e1, e2]; exact far_sub (by omega) (by omega) (by omega) (by omega)
        simp only [k97_25, k97_26, k97_29, k97_31, k97_34, k97_35, k97_37, k97_38, k97_41, k97_43, k97_44, k97_46, k97_47, k97_50, k97_52, k97_53, k97_55, k97_56, k97_59, k97_61, k97_62, k97_64, k97_65, k97_68, k97_70, k97_71, k97_72, k97_74, k97_75, k97_78, k97_79, k97_80, k97_82, k97_83, k97_85, k97_87, k97_90, k97_91, k97_93, k97_95, k97_98, k97_100, k97_101, k97_104, k97_106, k97_109, k97_111, k97_112, k97_115, k97_117, k97_119, k97_122, k97_123, k97_125, k97_126, k97_129, k97_130, k97_133, k97_134, k97_136, k97_137, k97_140, k97_141, k97_144, k97_146, k97_148, k97_151, k97_152, k97_155, k97_156, k97_158, k97_160, k97_163, k97_164, k97_167, k97_168, k97_171, k97_173, k97_175, k97_178, k97_180, k97_182, k97_183, k97_184, k97_186, k97_187, k97_190, k97_193, k97_195, k97_197, k97_198, k97_199, k97_201, k97_202, k97_205, k97_208, k97_209, k97_211, k97_213, k97_216, k97_218, k97_221, k97_222, k97_225, k97_226, k97_227, k97_229, k97_230, k97_233, k97_234, k97_237, k97_238, k97_241, k97_242, k97_245, k97_246, k97_249, k97_250, k97_252, k97_255, rf_s, pushR_s, pushR_n, le4_0, le4_1, le4_2, le4_3, le4_4, isLong_n, isLong_i, isLong_r, isLong_f, if_true, if_false, not_true_eq_false, not_false_eq_true, isI_0, isI_9, isAr_0, isAr_1, isAr_2, isAr_9, okR_i, okR_0, okR_1, putI_0, putI_b0, putI_b1, nI_10, nI_00, Nat.reduceLT, Nat.reduceLeDiff, nI_add, upM_s, upI_s, pk_mul, nf_at, t0, h1, h2, h3, h4, h5, h6, h7, q0, q1, q2, q3, q4, q6, a2, a3, a4, z1, z2, z3, z4, z5, z6, eq_self]
        rfl
      · have z3 : (dist s (s (30 + 6 * k + 0)) = -1000000004) = True := eq_true (dist_n d)
        have z4 : (dist s (s (30 + 6 * k + 1)) = -1000000004) = True := eq_true (dist_n (fun q => d (f3.2 q)))
        simp only [k97_25, k97_26, k97_29, k97_31, k97_34, k97_35, k97_37, k97_38, k97_41, k97_43, k97_44, k97_46, k97_47, k97_50, k97_52, k97_53, k97_55, k97_56, k97_59, k97_61, k97_62, k97_64, k97_65, k97_68, k97_70, k97_71, k97_72, k97_74, k97_75, k97_78, k97_79, k97_80, k97_82, k97_83, k97_85, k97_87, k97_90, k97_91, k97_93, k97_95, k97_98, k97_100, k97_101, k97_104, k97_106, k97_109, k97_111, k97_112, k97_115, k97_117, k97_119, k97_122, k97_123, k97_125, k97_126, k97_129, k97_130, k97_133, k97_134, k97_136, k97_137, k97_140, k97_141, k97_144, k97_146, k97_148, k97_151, k97_152, k97_155, k97_156, k97_158, k97_160, k97_163, k97_164, k97_167, k97_168, k97_171, k97_173, k97_175, k97_178, k97_180, k97_182, k97_183, k97_184, k97_186, k97_187, k97_190, k97_193, k97_195, k97_197, k97_198, k97_199, k97_201, k97_202, k97_205, k97_208, k97_209, k97_211, k97_213, k97_216, k97_218, k97_221, k97_222, k97_225, k97_226, k97_227, k97_229, k97_230, k97_233, k97_234, k97_237, k97_238, k97_241, k97_242, k97_245, k97_246, k97_249, k97_250, k97_252, k97_255, rf_s, pushR_s, pushR_n, le4_0, le4_1, le4_2, le4_3, le4_4, isLong_n, isLong_i, isLong_r, isLong_f, if_true, if_false, not_true_eq_false, not_false_eq_true, isI_0, isI_9, isAr_0, isAr_1, isAr_2, isAr_9, okR_i, okR_0, okR_1, putI_0, putI_b0, putI_b1, nI_10, nI_00, Nat.reduceLT, Nat.reduceLeDiff, nI_add, upM_s, upI_s, pk_mul, nf_at, t0, h1, h2, h3, h4, h5, h6, h7, q0, q1, q2, q3, q4, q6, a2, a3, a4, z1, z2, z3, z4, eq_self]
        rfl
theorem hd2 (K : Lw L xs σ M s H n len T B) (l3 l4 l5 l9 l10 : Option Value) (hl : isLong l5 = false) : ∀ m, m ≤ s 0 → ∃ M', (∀ Q, wp 97 267 [some (.ref 0), some (.int (nI (s 1))), some (.int (nI (s 0))), l3, l4, l5, some (.int (nI 0)), some (.int (nI 0)), some (.int (nI 0)), l9, l10] [] σ M Q = wp 97 267 [some (.ref 0), some (.int (nI (s 1))), some (.int (nI (s 0))), l3, l4, l5, some (.int (nI (sumTo (cme s) m))), some (.int (nI (sumTo (stk s) m))), some (.int (nI m)), l9, l10] [] σ M' Q) ∧ Lw L xs σ M' s H n len T B
  | 0, _ => ⟨M, fun _ => rfl, K⟩
  | m + 1, hm => by
    obtain ⟨M1, a1, K1⟩ := hd2 K l3 l4 l5 l9 l10 hl m (by omega)
    obtain ⟨M2, a2, K2⟩ := pc1 K1 (p := m) (by omega)
    obtain ⟨M3, a3, K3⟩ := pc2 K2 (p := m) (by omega)
    have g0 := K.inv.1.1
    have t0 := K.t0
    have h1 : nI m < nI (s 0) := nI_lt (by omega) (by omega)
    refine ⟨M3, fun Q => ?_, K3⟩
    rw [a1, k97_267]
    simp only [k97_269, k97_270, k97_273, k97_275, k97_276, k97_278, k97_279, k97_282, k97_283, k97_285, k97_287, k97_288, k97_290, k97_291, k97_294, k97_295, k97_297, k97_300, rf_s, pushR_s, pushR_n, le4_0, le4_1, le4_2, le4_3, le4_4, isLong_n, isLong_i, isLong_r, isLong_f, if_true, if_false, not_true_eq_false, not_false_eq_true, isI_0, isI_9, isAr_0, isAr_1, isAr_2, isAr_9, okR_i, okR_0, okR_1, putI_0, putI_b0, putI_b1, nI_10, nI_00, Nat.reduceLT, Nat.reduceLeDiff, nI_add, upM_s, upI_s, pk_mul, nf_at, hl, t0, h1, a2, a3]
    rfl
theorem hd3 (K : Lw L xs σ M s H n len T B) (hB : B < 1000000) (l1 l2 l3 l4 l5 l6 l7 l8 l9 l10 : Option Value) (Q : Po) : wp 97 403 [some (.ref 0), l1, l2, l3, l4, l5, l6, l7, l8, l9, l10] [] σ M Q = Q (some (.int (nI 1))) σ M := by
  have i := K.inv
  have pj := K.pj
  have t0 := K.t0
  have b0 := fun Q => e11 K (w := 0) (by omega) Q
  have b1 := fun Q => e11 K (w := 1) (by omega) Q
  have b2 := fun Q => e11 K (w := 2) (by omega) Q
  have c0 := fun Q => e12 K (k := 0) (by omega) (fun _ => Nat.zero_le _) Q
  by_cases c : s 9 = 0
  · have v0 : bV s 0 = -1000000004 := if_pos c
    have u0 : baV s 0 = -1000000004 := if_pos c
    rw [v0] at b0
    rw [u0] at c0
    simp only [k97_403, k97_404, k97_405, k97_408, k97_410, k97_413, k97_414, k97_417, k97_418, k97_419, k97_420, k97_423, k97_425, k97_428, k97_429, k97_432, k97_433, k97_436, k97_437, k97_438, k97_441, k97_443, k97_446, k97_447, k97_448, k97_449, k97_452, k97_455, k97_456, k97_458, k97_461, k97_464, k97_465, k97_466, k97_469, k97_470, k97_471, k97_474, k97_477, k97_478, k97_481, k97_482, rf_s, pushR_s, pushR_n, le4_0, le4_1, le4_2, le4_3, le4_4, isLong_n, isLong_i, isLong_r, isLong_f, if_true, if_false, not_true_eq_false, not_false_eq_true, isI_0, isI_9, isAr_0, isAr_1, isAr_2, isAr_9, okR_i, okR_0, okR_1, putI_0, putI_b0, putI_b1, nI_10, nI_00, Nat.reduceLT, Nat.reduceLeDiff, nI_add, upM_s, upI_s, pk_mul, nf_at, t0, b0, c0, eq_self]
  · obtain ⟨k1, k2, k3, k4, k5, k6, k7⟩ := i.2.2.2.2.1 c
    obtain ⟨j1, j2, _⟩ := pj.2.2.2.2.2 c
    have f10 := i.2.2.1.2.1
    have v0 : bV s 0 = nI (s 9) := if_neg c
    have v1 : bV s 1 = nI (s 10) := if_neg c
    have v2 : bV s 2 = nI (s 11) := if_neg c
    have u0 : baV s 0 = nI (s 20) := if_neg c
    rw [v0] at b0
    rw [v1] at b1
    rw [v2] at b2
    rw [u0, k6] at c0
    have c1 := fun Q => e12 K (k := s 10) (by omega) (fun _ => Nat.le_refl _) Q
    have u1 : baV s (s 10) = nI (s 7) := by
      unfold baV
      rw [if_neg c, j1]
    rw [u1] at c1
    have z1 : ¬ nI (s 9) = -1000000004 := ne_nf (by omega)
    have z2 : ¬ nI 0 = -1000000004 := ne_nf (by omega)
    have b := K.b
    have z3 : nI (s 11) < nI (s 2) := nI_lt (by omega) (by omega)
    simp only [k97_403, k97_404, k97_405, k97_408, k97_410, k97_413, k97_414, k97_417, k97_418, k97_419, k97_420, k97_423, k97_425, k97_428, k97_429, k97_432, k97_433, k97_436, k97_437, k97_438, k97_441, k97_443, k97_446, k97_447, k97_448, k97_449, k97_452, k97_455, k97_456, k97_458, k97_461, k97_464, k97_465, k97_466, k97_469, k97_470, k97_471, k97_474, k97_477, k97_478, k97_481, k97_482, rf_s, pushR_s, pushR_n, le4_0, le4_1, le4_2, le4_3, le4_4, isLong_n, isLong_i, isLong_r, isLong_f, if_true, if_false, not_true_eq_false, not_false_eq_true, isI_0, isI_9, isAr_0, isAr_1, isAr_2, isAr_9, okR_i, okR_0, okR_1, putI_0, putI_b0, putI_b1, nI_10, nI_00, Nat.reduceLT, Nat.reduceLeDiff, nI_add, upM_s, upI_s, pk_mul, nf_at, t0, b0, b1, b2, c0, c1, cnt_10 K, cnt_3 K, z1, z2, z3, eq_self]
theorem l97 (K : Lw L xs σ M s H n len T B) (hB : B < 1000000) : ∃ M', (∀ Q, wp 97 0 [some (.ref 0), none, none, none, none, none, none, none, none, none, none] [] σ M Q = Q (some (.int (nI 1))) σ M') ∧ Lw L xs σ M' s H n len T B := by
  have i := K.inv
  have x := K.ex
  have pj := K.pj
  have t0 := K.t0
  have g0 := i.1.1
  have g1 := i.1.2.1
  obtain ⟨M1, l7, l8, l9, l10, a1, K1⟩ := hd1 K (s 1) (Nat.le_refl _)
  obtain ⟨M2, a2, K2⟩ := hd2 K1 (some (.int (nI (sumTo (trl s) (s 1))))) (some (.int (nI (sumTo (wnt s) (s 1))))) (some (.int (nI 1))) l9 l10 rfl (s 0) (Nat.le_refl _)
  have h1 : ¬ nI (s 1) < nI (s 1) := nI_nlt (Nat.le_refl _) (by omega)
  have h2 : ¬ nI (s 0) < nI (s 0) := nI_nlt (Nat.le_refl _) (by omega)
  have w1 : sumTo (wnt s) (s 1) = wnS s := wn_of i x
  have w2 : sumTo (cme s) (s 0) = cmS s := cm_of i pj
  have w3 : sumTo (stk s) (s 0) = skS s := sk_of i pj
  have q1 : (nI (sumTo (wnt s) (s 1)) = nI (sumTo (cme s) (s 0))) = True := eq_true (by rw [w1, w2, pj.1])
  have q2 : (nI (sumTo (stk s) (s 0)) = nI (s 5)) = True := eq_true (by rw [w3, pj.2.1])
  have q3 : (nI (s 3) = nI (s 4 + s 5 + s 6)) = True := eq_true (by rw [x.1])
  have o1 := sumTo_le (f := opn s) (c := 1) (n := s 1) (fun k _ => by unfold opn; omega)
  have q4 : ¬ nI (s 1) < nI (sumTo (opn s) (s 1)) := nI_nlt (by omega) (by omega)
  have q5 : 0 < nI (s 8) := by
    have q := nI_lt pj.2.2.1 (show s 8 < 2 ^ 31 by have := i.2.2.2.1; omega)
    rw [nI_0] at q
    exact q
  by_cases c : s 0 = 0
  · refine ⟨M2, fun Q => ?_, K2⟩
    have z : (nI (s 0) = 0) = True := eq_true (by rw [c]; exact nI_0)
    simp only [k97_0, k97_1, k97_2, k97_5, k97_6, k97_7, k97_8, k97_11, k97_12, k97_13, k97_14, k97_15, k97_17, k97_18, k97_20, k97_21, rf_s, pushR_s, pushR_n, le4_0, le4_1, le4_2, le4_3, le4_4, isLong_n, isLong_i, isLong_r, isLong_f, if_true, if_false, not_true_eq_false, not_false_eq_true, isI_0, isI_9, isAr_0, isAr_1, isAr_2, isAr_9, okR_i, okR_0, okR_1, putI_0, putI_b0, putI_b1, nI_10, nI_00, Nat.reduceLT, Nat.reduceLeDiff, nI_add, upM_s, upI_s, pk_mul, nf_at, t0, cnt_1 K, cnt_0 K]
    rw [a1, k97_23]
    simp only [k97_25, k97_26, k97_258, k97_259, k97_261, k97_262, k97_264, k97_265, rf_s, pushR_s, pushR_n, le4_0, le4_1, le4_2, le4_3, le4_4, isLong_n, isLong_i, isLong_r, isLong_f, if_true, if_false, not_true_eq_false, not_false_eq_true, isI_0, isI_9, isAr_0, isAr_1, isAr_2, isAr_9, okR_i, okR_0, okR_1, putI_0, putI_b0, putI_b1, nI_10, nI_00, Nat.reduceLT, Nat.reduceLeDiff, nI_add, upM_s, upI_s, pk_mul, nf_at, h1]
    rw [a2, k97_267]
    simp only [k97_269, k97_270, k97_303, k97_305, k97_308, k97_309, k97_310, k97_312, k97_315, k97_318, k97_320, k97_322, k97_325, k97_327, k97_328, k97_330, k97_333, k97_336, k97_337, k97_338, k97_341, k97_342, k97_343, k97_346, k97_347, k97_349, k97_352, k97_353, k97_354, k97_356, k97_359, k97_360, k97_363, k97_364, k97_365, k97_368, k97_369, k97_372, k97_373, k97_375, k97_378, k97_381, k97_382, rf_s, pushR_s, pushR_n, le4_0, le4_1, le4_2, le4_3, le4_4, isLong_n, isLong_i, isLong_r, isLong_f, if_true, if_false, not_true_eq_false, not_false_eq_true, isI_0, isI_9, isAr_0, isAr_1, isAr_2, isAr_9, okR_i, okR_0, okR_1, putI_0, putI_b0, putI_b1, nI_10, nI_00, Nat.reduceLT, Nat.reduceLeDiff, nI_add, upM_s, upI_s, pk_mul, nf_at, t0, h2, cnt_8 K2, cnt_6 K2, cnt_4 K2, cnt_5 K2, cnt_7 K2, cnt_2 K2, cnt_11 K2, q1, q2, q3, q4, q5, z, eq_self]
    exact hd3 K2 hB _ _ _ _ _ _ _ _ _ _ Q
  · obtain ⟨M3, a3, K3⟩ := pc1 K2 (p := 0) (by omega)
    obtain ⟨M4, a4, K4⟩ := pd K3 (p := 0) (by omega)
    refine ⟨M4, fun Q => ?_, K4⟩
    have z : ¬ nI (s 0) = 0 := nI_ne0 (by omega) (by omega)
    have z1 : (nI (s (126 + 2 * 0 + 0)) = 0) = True := eq_true (by
      show nI (s 126) = 0
      rw [pj.2.2.2.1]
      exact nI_0)
    have z2 : (dist s 0 = 0) = True := eq_true (by
      rw [dist_y (by rw [Dr_0]; omega), Dr_0]
      exact nI_0)
    simp only [k97_0, k97_1, k97_2, k97_5, k97_6, k97_7, k97_8, k97_11, k97_12, k97_13, k97_14, k97_15, k97_17, k97_18, k97_20, k97_21, rf_s, pushR_s, pushR_n, le4_0, le4_1, le4_2, le4_3, le4_4, isLong_n, isLong_i, isLong_r, isLong_f, if_true, if_false, not_true_eq_false, not_false_eq_true, isI_0, isI_9, isAr_0, isAr_1, isAr_2, isAr_9, okR_i, okR_0, okR_1, putI_0, putI_b0, putI_b1, nI_10, nI_00, Nat.reduceLT, Nat.reduceLeDiff, nI_add, upM_s, upI_s, pk_mul, nf_at, t0, cnt_1 K, cnt_0 K]
    rw [a1, k97_23]
    simp only [k97_25, k97_26, k97_258, k97_259, k97_261, k97_262, k97_264, k97_265, rf_s, pushR_s, pushR_n, le4_0, le4_1, le4_2, le4_3, le4_4, isLong_n, isLong_i, isLong_r, isLong_f, if_true, if_false, not_true_eq_false, not_false_eq_true, isI_0, isI_9, isAr_0, isAr_1, isAr_2, isAr_9, okR_i, okR_0, okR_1, putI_0, putI_b0, putI_b1, nI_10, nI_00, Nat.reduceLT, Nat.reduceLeDiff, nI_add, upM_s, upI_s, pk_mul, nf_at, h1]
    rw [a2, k97_267]
    simp only [k97_269, k97_270, k97_303, k97_305, k97_308, k97_309, k97_310, k97_312, k97_315, k97_318, k97_320, k97_322, k97_325, k97_327, k97_328, k97_330, k97_333, k97_336, k97_337, k97_338, k97_341, k97_342, k97_343, k97_346, k97_347, k97_349, k97_352, k97_353, k97_354, k97_356, k97_359, k97_360, k97_363, k97_364, k97_365, k97_368, k97_369, k97_372, k97_373, k97_375, k97_378, k97_381, k97_382, k97_385, k97_386, k97_387, k97_388, k97_391, k97_394, k97_395, k97_396, k97_397, k97_400, rf_s, pushR_s, pushR_n, le4_0, le4_1, le4_2, le4_3, le4_4, isLong_n, isLong_i, isLong_r, isLong_f, if_true, if_false, not_true_eq_false, not_false_eq_true, isI_0, isI_9, isAr_0, isAr_1, isAr_2, isAr_9, okR_i, okR_0, okR_1, putI_0, putI_b0, putI_b1, nI_10, nI_00, Nat.reduceLT, Nat.reduceLeDiff, nI_add, upM_s, upI_s, pk_mul, nf_at, t0, h2, cnt_8 K2, cnt_6 K2, cnt_4 K2, cnt_5 K2, cnt_7 K2, cnt_2 K2, cnt_11 K2, q1, q2, q3, q4, q5, z, a3, a4, z1, z2, eq_self]
    exact hd3 K4 hB _ _ _ _ _ _ _ _ _ _ Q
end HOL
