/-! the law's acts: paths, closing -/
section PAT
variable {L : Nat} {xs : Nat → Int32} {σ τ : Sg} {M M' : Mem} {I : Nat → Nat} {s s' : Nat → Nat} {H : Nat → Nat → Nat} {n len B : Nat} {T : Nat → Nat} {r : Int32}
def bad (s : Nat → Nat) (a b c : Nat) : Nat := if a = s 0 ∨ b = s 0 ∨ a = b ∨ c = 0 ∨ c = 21 then 1 else 0
theorem oPath_law {s : Nat → Nat} (i : Inv s) {a b c : Nat} (ha : a ≤ s 0) (hb : b ≤ s 0) (hc : c < 22) : ∃ r s', oPath s (nI a) (nI b) (nI c) r s' ∧ (bad s a b c = 1 ∧ r = -1000000001 ∧ s' = s ∨ bad s a b c = 0 ∧ s 1 = 16 ∧ r = -1000000003 ∧ s' = s ∨ bad s a b c = 0 ∧ s 1 < 16 ∧ r = nI (s 1) ∧ s' = gPath s a b c) := by
  have g0 := i.1.1
  have g1 := i.1.2.1
  obtain ⟨r, s', o⟩ := oPath_ex i (nI a) (nI b) (nI c)
  refine ⟨r, s', o, ?_⟩
  unfold bad
  rcases o with ⟨a', b', l', e1, e2, e3, h1, h2, h3, h4, h5, h6⟩ | ⟨h, h7, h8⟩
  · have x1 : a = a' := (nI_eq (by omega) (by omega)).1 e1
    have x2 : b = b' := (nI_eq (by omega) (by omega)).1 e2
    have x3 : c = l' := (nI_eq (by omega) (by omega)).1 e3
    subst x1 x2 x3
    rw [if_neg (by omega)]
    rcases h6 with ⟨q1, q2, q3⟩ | ⟨q1, q2, q3⟩
    · exact Or.inr (Or.inl ⟨rfl, q1, q2, q3⟩)
    · exact Or.inr (Or.inr ⟨rfl, q1, q2, q3⟩)
  · refine Or.inl ⟨if_pos ?_, h7, h8⟩
    rcases h with h | ⟨_, h⟩ | ⟨_, _, h⟩ | ⟨_, _, _, h⟩
    · refine Or.inl ?_
      by_cases q : a < s 0
      · exact absurd ⟨a, q, rfl⟩ h
      · omega
    · refine Or.inr (Or.inl ?_)
      by_cases q : b < s 0
      · exact absurd ⟨b, q, rfl⟩ h
      · omega
    · exact Or.inr (Or.inr (Or.inl ((nI_eq (by omega) (by omega)).1 h)))
    · refine Or.inr (Or.inr (Or.inr ?_))
      by_cases q : 1 ≤ c ∧ c ≤ 20
      · exact absurd ⟨c, q.1, q.2, rfl⟩ h
      · omega
theorem pbad {s : Nat → Nat} (i : Inv s) {a b c : Nat} (ha : a ≤ s 0) (hb : b ≤ s 0) (hc : c < 22) (l0 l1 l2 l3 l5 l9 l10 l11 : Option Value) (σ : Sg) (M : Mem) (Q : Po) : wp 103 105 [l0, l1, l2, l3, some (.int (nI (s 0))), l5, some (.int (nI a)), some (.int (nI b)), some (.int (nI c)), l9, l10, l11] [] σ M Q = wp 103 145 [l0, l1, l2, l3, some (.int (nI (s 0))), l5, some (.int (nI a)), some (.int (nI b)), some (.int (nI c)), some (.int (nI (bad s a b c))), l10, l11] [] σ M Q := by
  have g0 := i.1.1
  unfold bad
  by_cases c1 : a = s 0
  · have z : (nI a = nI (s 0)) = True := eq_true (congrArg nI c1)
    rw [if_pos (Or.inl c1)]
    simp only [k103_105, k103_107, k103_109, k103_112, k103_114, k103_116, k103_119, k103_121, k103_123, k103_126, k103_128, k103_131, k103_133, k103_135, k103_138, k103_139, k103_142, k103_143, rf_s, pushR_s, pushR_n, le4_0, le4_1, le4_2, le4_3, le4_4, isLong_n, isLong_i, isLong_r, isLong_f, if_true, if_false, not_true_eq_false, not_false_eq_true, isI_0, isI_9, isAr_0, isAr_1, isAr_2, isAr_9, okR_i, okR_0, okR_1, putI_0, putI_b0, putI_b1, nI_10, nI_00, Nat.reduceLT, Nat.reduceLeDiff, nI_add, upM_s, upI_s, pk_mul, nf_at, z]
  · have z : ¬ nI a = nI (s 0) := ne_n (by omega) (by omega) c1
    by_cases c2 : b = s 0
    · have z2 : (nI b = nI (s 0)) = True := eq_true (congrArg nI c2)
      rw [if_pos (Or.inr (Or.inl c2))]
      simp only [k103_105, k103_107, k103_109, k103_112, k103_114, k103_116, k103_119, k103_121, k103_123, k103_126, k103_128, k103_131, k103_133, k103_135, k103_138, k103_139, k103_142, k103_143, rf_s, pushR_s, pushR_n, le4_0, le4_1, le4_2, le4_3, le4_4, isLong_n, isLong_i, isLong_r, isLong_f, if_true, if_false, not_true_eq_false, not_false_eq_true, isI_0, isI_9, isAr_0, isAr_1, isAr_2, isAr_9, okR_i, okR_0, okR_1, putI_0, putI_b0, putI_b1, nI_10, nI_00, Nat.reduceLT, Nat.reduceLeDiff, nI_add, upM_s, upI_s, pk_mul, nf_at, z, z2]
    · have z2 : ¬ nI b = nI (s 0) := ne_n (by omega) (by omega) c2
      by_cases c3 : a = b
      · have z3 : (nI a = nI b) = True := eq_true (congrArg nI c3)
        rw [if_pos (Or.inr (Or.inr (Or.inl c3)))]
        simp only [k103_105, k103_107, k103_109, k103_112, k103_114, k103_116, k103_119, k103_121, k103_123, k103_126, k103_128, k103_131, k103_133, k103_135, k103_138, k103_139, k103_142, k103_143, rf_s, pushR_s, pushR_n, le4_0, le4_1, le4_2, le4_3, le4_4, isLong_n, isLong_i, isLong_r, isLong_f, if_true, if_false, not_true_eq_false, not_false_eq_true, isI_0, isI_9, isAr_0, isAr_1, isAr_2, isAr_9, okR_i, okR_0, okR_1, putI_0, putI_b0, putI_b1, nI_10, nI_00, Nat.reduceLT, Nat.reduceLeDiff, nI_add, upM_s, upI_s, pk_mul, nf_at, z, z2, z3]
      · have z3 : ¬ nI a = nI b := ne_n (by omega) (by omega) c3
        by_cases c4 : c = 0
        · have z4 : (nI c = 0) = True := eq_true (by rw [c4]; exact nI_0)
          rw [if_pos (Or.inr (Or.inr (Or.inr (Or.inl c4))))]
          simp only [k103_105, k103_107, k103_109, k103_112, k103_114, k103_116, k103_119, k103_121, k103_123, k103_126, k103_128, k103_131, k103_133, k103_135, k103_138, k103_139, k103_142, k103_143, rf_s, pushR_s, pushR_n, le4_0, le4_1, le4_2, le4_3, le4_4, isLong_n, isLong_i, isLong_r, isLong_f, if_true, if_false, not_true_eq_false, not_false_eq_true, isI_0, isI_9, isAr_0, isAr_1, isAr_2, isAr_9, okR_i, okR_0, okR_1, putI_0, putI_b0, putI_b1, nI_10, nI_00, Nat.reduceLT, Nat.reduceLeDiff, nI_add, upM_s, upI_s, pk_mul, nf_at, z, z2, z3, z4]
        · have z4 : ¬ nI c = 0 := nI_ne0 (by omega) (by omega)
          by_cases c5 : c = 21
          · have z5 : (nI c = nI 21) = True := eq_true (congrArg nI c5)
            rw [if_pos (Or.inr (Or.inr (Or.inr (Or.inr c5))))]
            simp only [k103_105, k103_107, k103_109, k103_112, k103_114, k103_116, k103_119, k103_121, k103_123, k103_126, k103_128, k103_131, k103_133, k103_135, k103_138, k103_139, k103_142, k103_143, rf_s, pushR_s, pushR_n, le4_0, le4_1, le4_2, le4_3, le4_4, isLong_n, isLong_i, isLong_r, isLong_f, if_true, if_false, not_true_eq_false, not_false_eq_true, isI_0, isI_9, isAr_0, isAr_1, isAr_2, isAr_9, okR_i, okR_0, okR_1, putI_0, putI_b0, putI_b1, nI_10, nI_00, Nat.reduceLT, Nat.reduceLeDiff, nI_add, upM_s, upI_s, pk_mul, nf_at, z, z2, z3, z4, z5]
          · have z5 : ¬ nI c = nI 21 := ne_n (by omega) (by omega) c5
            rw [if_neg (by omega)]
            simp only [k103_105, k103_107, k103_109, k103_112, k103_114, k103_116, k103_119, k103_121, k103_123, k103_126, k103_128, k103_131, k103_133, k103_135, k103_138, k103_139, k103_142, k103_143, rf_s, pushR_s, pushR_n, le4_0, le4_1, le4_2, le4_3, le4_4, isLong_n, isLong_i, isLong_r, isLong_f, if_true, if_false, not_true_eq_false, not_false_eq_true, isI_0, isI_9, isAr_0, isAr_1, isAr_2, isAr_9, okR_i, okR_0, okR_1, putI_0, putI_b0, putI_b1, nI_10, nI_00, Nat.reduceLT, Nat.reduceLeDiff, nI_add, upM_s, upI_s, pk_mul, nf_at, z, z2, z3, z4, z5]
theorem ac_pa (K : Lw L xs σ M s H n len T B) (y : Int32) (l1 l3 l6 l7 l8 l9 l10 l11 : Option Value) : ∃ τ M' s' H' n', (∀ Q, wp 103 59 [some (.ref 0), l1, some (.int y), l3, some (.int (nI (s 0))), some (.int (nI (s 1))), l6, l7, l8, l9, l10, l11] [] σ M Q = Q (some (.int (nI 1))) τ M') ∧ Lw L xs τ M' s' H' n' len T (B + 400) ∧ Mv s H n s' H' n' := by
  have i := K.inv
  have x := K.ex
  have pj := K.pj
  have t0 := K.t0
  have g0 := i.1.1
  have g1 := i.1.2.1
  obtain ⟨⟨I, l⟩, _⟩ := id K
  have la := fun Q => l95 (v := y) (m := s 0 + 1) (by omega) (by omega) (σ := σ) (M := M) Q
  have ba := lw_lt (v := y) (m := s 0 + 1) (by omega)
  have lb := fun Q => l95 (v := y >>> (nI 4 &&& 31)) (m := s 0 + 1) (by omega) (by omega) (σ := σ) (M := M) Q
  have bb := lw_lt (v := y >>> (nI 4 &&& 31)) (m := s 0 + 1) (by omega)
  have l4 := fun Q => l95 (v := y) (m := 4) (by omega) (by omega) (σ := σ) (M := M) Q
  have b4 := lw_lt (v := y) (m := 4) (by omega)
  generalize lw y (s 0 + 1) = a at *
  generalize lw (y >>> (nI 4 &&& 31)) (s 0 + 1) = b at *
  generalize lw y 4 = q at *
  obtain ⟨c, hc, a0⟩ : ∃ c, c < 22 ∧ ∀ Q, wp 103 59 [some (.ref 0), l1, some (.int y), l3, some (.int (nI (s 0))), some (.int (nI (s 1))), l6, l7, l8, l9, l10, l11] [] σ M Q = wp 103 105 [some (.ref 0), l1, some (.int y), l3, some (.int (nI (s 0))), some (.int (nI (s 1))), some (.int (nI a)), some (.int (nI b)), some (.int (nI c)), l9, l10, l11] [] σ M Q := by
    by_cases c : q = 0
    · have z : (nI q = 0) = True := eq_true (by rw [c]; exact nI_0)
      have lc := fun Q => l95 (v := y >>> (nI 8 &&& 31)) (m := 22) (by omega) (by omega) (σ := σ) (M := M) Q
      have bc := lw_lt (v := y >>> (nI 8 &&& 31)) (m := 22) (by omega)
      refine ⟨lw (y >>> (nI 8 &&& 31)) 22, by omega, fun Q => ?_⟩
      simp only [k103_59, k103_60, k103_62, k103_63, k103_64, k103_67, k103_69, k103_70, k103_71, k103_72, k103_74, k103_75, k103_76, k103_79, k103_81, k103_82, k103_84, k103_85, k103_86, k103_87, k103_90, k103_93, k103_95, k103_98, k103_100, k103_103, rf_s, pushR_s, pushR_n, le4_0, le4_1, le4_2, le4_3, le4_4, isLong_n, isLong_i, isLong_r, isLong_f, if_true, if_false, not_true_eq_false, not_false_eq_true, isI_0, isI_9, isAr_0, isAr_1, isAr_2, isAr_9, okR_i, okR_0, okR_1, putI_0, putI_b0, putI_b1, nI_10, nI_00, Nat.reduceLT, Nat.reduceLeDiff, nI_add, upM_s, upI_s, pk_mul, nf_at, la, lb, l4, z, lc]
    · have z : ¬ nI q = 0 := nI_ne0 (by omega) (by omega)
      have lc := fun Q => l95 (v := y >>> (nI 8 &&& 31)) (m := 8) (by omega) (by omega) (σ := σ) (M := M) Q
      have bc := lw_lt (v := y >>> (nI 8 &&& 31)) (m := 8) (by omega)
      refine ⟨lw (y >>> (nI 8 &&& 31)) 8, by omega, fun Q => ?_⟩
      simp only [k103_59, k103_60, k103_62, k103_63, k103_64, k103_67, k103_69, k103_70, k103_71, k103_72, k103_74, k103_75, k103_76, k103_79, k103_81, k103_82, k103_84, k103_85, k103_86, k103_87, k103_90, k103_93, k103_95, k103_98, k103_100, k103_103, rf_s, pushR_s, pushR_n, le4_0, le4_1, le4_2, le4_3, le4_4, isLong_n, isLong_i, isLong_r, isLong_f, if_true, if_false, not_true_eq_false, not_false_eq_true, isI_0, isI_9, isAr_0, isAr_1, isAr_2, isAr_9, okR_i, okR_0, okR_1, putI_0, putI_b0, putI_b1, nI_10, nI_00, Nat.reduceLT, Nat.reduceLeDiff, nI_add, upM_s, upI_s, pk_mul, nf_at, la, lb, l4, z, lc]
  have pb := fun Q => pbad i (a := a) (b := b) (by omega) (by omega) hc (some (.ref 0)) l1 (some (.int y)) l3 (some (.int (nI (s 1)))) l9 l10 l11 σ M Q
  obtain ⟨r, s', o, w⟩ := oPath_law i (a := a) (b := b) (by omega) (by omega) hc
  obtain ⟨τ, M1, a1, b1⟩ := c3 l o
  have p' := oPath_p i x pj o
  rcases w with ⟨w1, w2, w3⟩ | ⟨w1, w2, w3, w4⟩ | ⟨w1, w2, w3, w4⟩
  · rw [w2] at a1 b1
    rw [w1] at pb
    have K1 := (K.e b1 p' (by rw [w3]; omega)).1 er_1
    refine ⟨τ, M1, s, H, n, fun Q => ?_, K1, Or.inl ⟨rfl, rfl, rfl⟩⟩
    rw [a0, pb]
    simp only [k103_145, k103_146, k103_148, k103_150, k103_152, k103_155, k103_157, k103_159, k103_161, k103_164, k103_166, k103_169, k103_171, k103_173, k103_176, k103_178, k103_181, k103_183, k103_186, k103_188, k103_191, k103_192, k103_194, k103_195, k103_198, k103_199, k103_201, k103_204, k103_207, k103_208, k103_210, k103_211, k103_214, k103_216, k103_219, k103_220, k103_222, k103_223, k103_226, k103_227, k103_229, k103_231, k103_234, k103_235, k103_236, k103_238, k103_240, k103_243, k103_244, k103_247, k103_248, k103_251, k103_252, rf_s, pushR_s, pushR_n, le4_0, le4_1, le4_2, le4_3, le4_4, isLong_n, isLong_i, isLong_r, isLong_f, if_true, if_false, not_true_eq_false, not_false_eq_true, isI_0, isI_9, isAr_0, isAr_1, isAr_2, isAr_9, okR_i, okR_0, okR_1, putI_0, putI_b0, putI_b1, nI_10, nI_00, Nat.reduceLT, Nat.reduceLeDiff, nI_add, upM_s, upI_s, pk_mul, nf_at, t0, a1, neg_1, eq_self]
  · rw [w3] at a1 b1
    rw [w1] at pb
    have K1 := (K.e b1 p' (by rw [w4]; omega)).1 er_3
    have z : (nI (s 1) = nI 16) = True := eq_true (congrArg nI w2)
    refine ⟨τ, M1, s, H, n, fun Q => ?_, K1, Or.inl ⟨rfl, rfl, rfl⟩⟩
    rw [a0, pb]
    simp only [k103_145, k103_146, k103_148, k103_150, k103_152, k103_155, k103_157, k103_159, k103_161, k103_164, k103_166, k103_169, k103_171, k103_173, k103_176, k103_178, k103_181, k103_183, k103_186, k103_188, k103_191, k103_192, k103_194, k103_195, k103_198, k103_199, k103_201, k103_204, k103_207, k103_208, k103_210, k103_211, k103_214, k103_216, k103_219, k103_220, k103_222, k103_223, k103_226, k103_227, k103_229, k103_231, k103_234, k103_235, k103_236, k103_238, k103_240, k103_243, k103_244, k103_247, k103_248, k103_251, k103_252, rf_s, pushR_s, pushR_n, le4_0, le4_1, le4_2, le4_3, le4_4, isLong_n, isLong_i, isLong_r, isLong_f, if_true, if_false, not_true_eq_false, not_false_eq_true, isI_0, isI_9, isAr_0, isAr_1, isAr_2, isAr_9, okR_i, okR_0, okR_1, putI_0, putI_b0, putI_b1, nI_10, nI_00, Nat.reduceLT, Nat.reduceLeDiff, nI_add, upM_s, upI_s, pk_mul, nf_at, t0, a1, z, neg_3, eq_self]
  · rw [w3] at a1 b1
    rw [w1] at pb
    have lo : ∀ j, j < 30 → j ≠ 1 → s' j = s j := fun j h h' => by
      rw [w4]
      unfold gPath
      rw [upN_n h', upN_n (by omega), upN_n (by omega), upN_n (by omega), upN_n (by omega), upN_n (by omega), upN_n (by omega)]
    have K1 := (K.e b1 p' (by rw [lo 2 (by omega) (by omega)]; omega)).2 (nr_nI (by omega))
    have t1 := K1.t0
    have e1 : s' 1 = s 1 + 1 := by rw [w4]; exact upN_s
    have e3 : s' (30 + 6 * s 1 + 3) = s 17 := by
      rw [w4]
      unfold gPath
      rw [upN_n (by omega), upN_n (by omega), upN_n (by omega), upN_s]
    have e2 : s' (30 + 6 * s 1 + 2) = c := by
      rw [w4]
      unfold gPath
      rw [upN_n (by omega), upN_n (by omega), upN_n (by omega), upN_n (by omega), upN_s]
    have e4 : s' (30 + 6 * s 1 + 4) = 0 := by
      rw [w4]
      unfold gPath
      rw [upN_n (by omega), upN_n (by omega), upN_s]
    have e5 : s' (30 + 6 * s 1 + 5) = 0 := by
      rw [w4]
      unfold gPath
      rw [upN_n (by omega), upN_s]
    have e7 : inb s' (s 1) = 0 := by
      unfold inb
      rw [lo 9 (by omega) (by omega), lo 12 (by omega) (by omega)]
      split
      · rfl
      · rename_i q
        exact (pj.2.2.2.2.2 q).2.2 (s 1) (Nat.le_refl _)
    have k1 : s 1 < s' 1 := by omega
    have q3 := fun Q => pa K1 k1 (w := 3) (by omega) Q
    have q2 := fun Q => pa K1 k1 (w := 2) (by omega) Q
    have q4 := fun Q => pa K1 k1 (w := 4) (by omega) Q
    have q6 := pa6 K1 k1
    have q7 : ∀ Q, wp 9 0 [some (.ref 0), some (.int (nI (s 1))), some (.int (nI 7))] [] τ M1 Q = Q (some (.int (nI (inb s' (s 1))))) τ M1 := fun Q => e9 K1 k1 (w := 7) (by omega) Q
    rw [e3] at q3
    rw [e2] at q2
    rw [e4] at q4
    rw [e5] at q6
    rw [e7] at q7
    have c24 := cnt_24 K1
    rw [lo 17 (by omega) (by omega)] at c24
    have z : ¬ nI (s 1) = nI 16 := ne_n (by omega) (by omega) (by omega)
    have z1 : ¬ nI (s 1) < 0 := nI_pos (by omega)
    have z2 : (nI (0 + 0 + 0) = 0) = True := eq_true nI_0
    refine ⟨τ, M1, s', pH H n s, pN n, fun Q => ?_, K1, Or.inr ⟨rfl, rfl⟩⟩
    rw [a0, pb]
    simp only [k103_145, k103_146, k103_148, k103_150, k103_152, k103_155, k103_157, k103_159, k103_161, k103_164, k103_166, k103_169, k103_171, k103_173, k103_176, k103_178, k103_181, k103_183, k103_186, k103_188, k103_191, k103_192, k103_194, k103_195, k103_198, k103_199, k103_201, k103_204, k103_207, k103_208, k103_210, k103_211, k103_214, k103_216, k103_219, k103_220, k103_222, k103_223, k103_226, k103_227, k103_229, k103_231, k103_234, k103_235, k103_236, k103_238, k103_240, k103_243, k103_244, k103_247, k103_248, k103_251, k103_252, rf_s, pushR_s, pushR_n, le4_0, le4_1, le4_2, le4_3, le4_4, isLong_n, isLong_i, isLong_r, isLong_f, if_true, if_false, not_true_eq_false, not_false_eq_true, isI_0, isI_9, isAr_0, isAr_1, isAr_2, isAr_9, okR_i, okR_0, okR_1, putI_0, putI_b0, putI_b1, nI_10, nI_00, Nat.reduceLT, Nat.reduceLeDiff, nI_add, upM_s, upI_s, pk_mul, nf_at, t0, t1, a1, q2, q3, q4, q6, q7, c24, z, z1, z2, eq_self]
theorem close_sum {s : Nat → Nat} (i : Inv s) {k : Nat} (hk : k < s 1) : (s (30 + 6 * k + 4) = 0 → sumTo (opn s) (s 1) = sumTo (opn (gClose s k 1)) (s 1) + 1) ∧ (s (30 + 6 * k + 4) = 1 → sumTo (opn (gClose s k 0)) (s 1) = sumTo (opn s) (s 1) + 1) := by
  have at1 : ∀ c, gClose s k c (30 + 6 * k + 4) = c := fun c => upN_s
  have oth1 : ∀ c j, j ≠ k → gClose s k c (30 + 6 * j + 4) = s (30 + 6 * j + 4) := fun c j h => upN_n (by omega)
  refine ⟨fun e => sumTo_bump (t := k) hk (fun j hj => ?_) ?_, fun e => sumTo_bump (t := k) hk (fun j hj => ?_) ?_⟩
  · unfold opn; rw [oth1 1 j hj]
  · unfold opn; rw [at1, e]
  · unfold opn; rw [oth1 0 j hj]
  · unfold opn; rw [at1, e]
theorem ac_cl (K : Lw L xs σ M s H n len T B) (y : Int32) (l1 l3 l4 l6 l7 l8 l9 l10 l11 : Option Value) : ∃ τ M' s' H' n', (∀ Q, wp 103 259 [some (.ref 0), l1, some (.int y), l3, l4, some (.int (nI (s 1))), l6, l7, l8, l9, l10, l11] [] σ M Q = Q (some (.int (nI 1))) τ M') ∧ Lw L xs τ M' s' H' n' len T (B + 400) ∧ Mv s H n s' H' n' := by
  have i := K.inv
  have pj := K.pj
  have t0 := K.t0
  have g1 := i.1.2.1
  obtain ⟨⟨I, l⟩, _⟩ := id K
  have lk := fun Q => l95 (v := y) (m := s 1 + 1) (by omega) (by omega) (σ := σ) (M := M) Q
  have bk := lw_lt (v := y) (m := s 1 + 1) (by omega)
  have l2 := fun Q => l95 (v := y >>> (nI 5 &&& 31)) (m := 2) (by omega) (by omega) (σ := σ) (M := M) Q
  have b2 := lw_lt (v := y >>> (nI 5 &&& 31)) (m := 2) (by omega)
  generalize lw y (s 1 + 1) = k at *
  generalize lw (y >>> (nI 5 &&& 31)) 2 = q at *
  obtain ⟨c, hc, a0⟩ : ∃ c, c ≤ 1 ∧ ∀ Q, wp 103 259 [some (.ref 0), l1, some (.int y), l3, l4, some (.int (nI (s 1))), l6, l7, l8, l9, l10, l11] [] σ M Q = wp 103 286 [some (.ref 0), l1, some (.int y), l3, l4, some (.int (nI (s 1))), some (.int (nI k)), some (.int (nI c)), l8, l9, l10, l11] [] σ M Q := by
    by_cases c : q = 0
    · have z : (nI q = 0) = True := eq_true (by rw [c]; exact nI_0)
      refine ⟨1, by omega, fun Q => ?_⟩
      simp only [k103_259, k103_260, k103_262, k103_263, k103_264, k103_267, k103_269, k103_270, k103_271, k103_272, k103_273, k103_276, k103_279, k103_280, k103_283, k103_284, rf_s, pushR_s, pushR_n, le4_0, le4_1, le4_2, le4_3, le4_4, isLong_n, isLong_i, isLong_r, isLong_f, if_true, if_false, not_true_eq_false, not_false_eq_true, isI_0, isI_9, isAr_0, isAr_1, isAr_2, isAr_9, okR_i, okR_0, okR_1, putI_0, putI_b0, putI_b1, nI_10, nI_00, Nat.reduceLT, Nat.reduceLeDiff, nI_add, upM_s, upI_s, pk_mul, nf_at, lk, l2, z]
    · have z : ¬ nI q = 0 := nI_ne0 (by omega) (by omega)
      refine ⟨0, by omega, fun Q => ?_⟩
      simp only [k103_259, k103_260, k103_262, k103_263, k103_264, k103_267, k103_269, k103_270, k103_271, k103_272, k103_273, k103_276, k103_279, k103_280, k103_283, k103_284, rf_s, pushR_s, pushR_n, le4_0, le4_1, le4_2, le4_3, le4_4, isLong_n, isLong_i, isLong_r, isLong_f, if_true, if_false, not_true_eq_false, not_false_eq_true, isI_0, isI_9, isAr_0, isAr_1, isAr_2, isAr_9, okR_i, okR_0, okR_1, putI_0, putI_b0, putI_b1, nI_10, nI_00, Nat.reduceLT, Nat.reduceLeDiff, nI_add, upM_s, upI_s, pk_mul, nf_at, lk, l2, z]
  by_cases ck : k = s 1
  · have o : oClose s (nI k) c (-1000000001) s := Or.inr ⟨fun ⟨p, p1, p2⟩ => by
      have := (nI_eq (by omega) (by omega)).1 p2
      omega, rfl, rfl⟩
    obtain ⟨τ, M1, a1, b1⟩ := c4 l hc o
    have K1 := (K.e b1 pj (by omega)).1 er_1
    have z : (nI k = nI (s 1)) = True := eq_true (congrArg nI ck)
    have z1 : ¬ nI k < nI (s 1) := nI_nlt (by omega) (by omega)
    refine ⟨τ, M1, s, H, n, fun Q => ?_, K1, Or.inl ⟨rfl, rfl, rfl⟩⟩
    rw [a0]
    simp only [k103_286, k103_287, k103_288, k103_291, k103_293, k103_295, k103_297, k103_300, k103_301, k103_304, k103_305, k103_307, k103_308, k103_311, k103_313, k103_315, k103_317, k103_320, k103_322, k103_324, k103_327, k103_328, k103_331, k103_332, k103_335, k103_336, k103_339, k103_340, k103_342, k103_343, k103_345, k103_347, k103_350, k103_352, k103_354, k103_357, k103_359, k103_362, k103_364, k103_367, k103_369, k103_372, k103_374, k103_375, k103_376, k103_379, k103_381, k103_382, k103_383, k103_386, k103_388, k103_391, k103_393, k103_396, k103_397, k103_399, k103_400, k103_403, k103_405, k103_408, k103_409, k103_412, k103_413, k103_416, k103_417, k103_420, k103_421, rf_s, pushR_s, pushR_n, le4_0, le4_1, le4_2, le4_3, le4_4, isLong_n, isLong_i, isLong_r, isLong_f, if_true, if_false, not_true_eq_false, not_false_eq_true, isI_0, isI_9, isAr_0, isAr_1, isAr_2, isAr_9, okR_i, okR_0, okR_1, putI_0, putI_b0, putI_b1, nI_10, nI_00, Nat.reduceLT, Nat.reduceLeDiff, nI_add, upM_s, upI_s, pk_mul, nf_at, t0, a1, cnt_2 K, z, z1, eq_self]
  · have hk : k < s 1 := by omega
    have z : ¬ nI k = nI (s 1) := ne_n (by omega) (by omega) ck
    have z1 : nI k < nI (s 1) := nI_lt hk (by omega)
    have p := i.1.2.2 k hk
    unfold pOk at p
    have p4 := fun Q => pa K hk (w := 4) (by omega) Q
    obtain ⟨s1, s2⟩ := close_sum i hk
    have o1 := sumTo_le (f := opn s) (c := 1) (n := s 1) (fun k _ => by unfold opn; omega)
    have ne10 : ¬ nI 1 = nI 0 := ne_n (by omega) (by omega) (by omega)
    have ne01 : ¬ nI 0 = nI 1 := ne_n (by omega) (by omega) (by omega)
    by_cases ce : s (30 + 6 * k + 4) = c
    · have o : oClose s (nI k) c (-1000000002) s := Or.inl ⟨k, rfl, hk, Or.inl ⟨ce, rfl, rfl⟩⟩
      obtain ⟨τ, M1, a1, b1⟩ := c4 l hc o
      have K1 := (K.e b1 pj (by omega)).1 er_2
      rw [ce] at p4
      refine ⟨τ, M1, s, H, n, fun Q => ?_, K1, Or.inl ⟨rfl, rfl, rfl⟩⟩
      rw [a0]
      rcases (show c = 0 ∨ c = 1 by omega) with e | e
      · subst e
        simp only [k103_286, k103_287, k103_288, k103_291, k103_293, k103_295, k103_297, k103_300, k103_301, k103_304, k103_305, k103_307, k103_308, k103_311, k103_313, k103_315, k103_317, k103_320, k103_322, k103_324, k103_327, k103_328, k103_331, k103_332, k103_335, k103_336, k103_339, k103_340, k103_342, k103_343, k103_345, k103_347, k103_350, k103_352, k103_354, k103_357, k103_359, k103_362, k103_364, k103_367, k103_369, k103_372, k103_374, k103_375, k103_376, k103_379, k103_381, k103_382, k103_383, k103_386, k103_388, k103_391, k103_393, k103_396, k103_397, k103_399, k103_400, k103_403, k103_405, k103_408, k103_409, k103_412, k103_413, k103_416, k103_417, k103_420, k103_421, rf_s, pushR_s, pushR_n, le4_0, le4_1, le4_2, le4_3, le4_4, isLong_n, isLong_i, isLong_r, isLong_f, if_true, if_false, not_true_eq_false, not_false_eq_true, isI_0, isI_9, isAr_0, isAr_1, isAr_2, isAr_9, okR_i, okR_0, okR_1, putI_0, putI_b0, putI_b1, nI_10, nI_00, Nat.reduceLT, Nat.reduceLeDiff, nI_add, upM_s, upI_s, pk_mul, nf_at, t0, a1, p4, cnt_2 K, z, z1, ne10, ne01, eq_self]
      · subst e
        simp only [k103_286, k103_287, k103_288, k103_291, k103_293, k103_295, k103_297, k103_300, k103_301, k103_304, k103_305, k103_307, k103_308, k103_311, k103_313, k103_315, k103_317, k103_320, k103_322, k103_324, k103_327, k103_328, k103_331, k103_332, k103_335, k103_336, k103_339, k103_340, k103_342, k103_343, k103_345, k103_347, k103_350, k103_352, k103_354, k103_357, k103_359, k103_362, k103_364, k103_367, k103_369, k103_372, k103_374, k103_375, k103_376, k103_379, k103_381, k103_382, k103_383, k103_386, k103_388, k103_391, k103_393, k103_396, k103_397, k103_399, k103_400, k103_403, k103_405, k103_408, k103_409, k103_412, k103_413, k103_416, k103_417, k103_420, k103_421, rf_s, pushR_s, pushR_n, le4_0, le4_1, le4_2, le4_3, le4_4, isLong_n, isLong_i, isLong_r, isLong_f, if_true, if_false, not_true_eq_false, not_false_eq_true, isI_0, isI_9, isAr_0, isAr_1, isAr_2, isAr_9, okR_i, okR_0, okR_1, putI_0, putI_b0, putI_b1, nI_10, nI_00, Nat.reduceLT, Nat.reduceLeDiff, nI_add, upM_s, upI_s, pk_mul, nf_at, t0, a1, p4, cnt_2 K, z, z1, ne10, ne01, eq_self]
    · have o : oClose s (nI k) c (nI (sumTo (opn (gClose s k c)) (s 1))) (gClose s k c) := Or.inl ⟨k, rfl, hk, Or.inr ⟨ce, rfl, rfl⟩⟩
      obtain ⟨τ, M1, a1, b1⟩ := c4 l hc o
      have ob := sumTo_le (f := opn (gClose s k c)) (c := 1) (n := s 1) (fun k _ => by unfold opn; omega)
      have K1 := (K.e b1 (oClose_p i pj o) (by unfold gClose; rw [upN_n (by omega)]; omega)).2 (nr_nI (by omega))
      have t1 := K1.t0
      have e1 : gClose s k c 1 = s 1 := upN_n (by omega)
      have q4 := fun Q => pa K1 (k := k) (w := 4) (by omega) (by omega) Q
      rw [show gClose s k c (30 + 6 * k + 4) = c from upN_s] at q4
      refine ⟨τ, M1, gClose s k c, pH H n s, pN n, fun Q => ?_, K1, Or.inr ⟨rfl, rfl⟩⟩
      rw [a0]
      rcases (show c = 0 ∨ c = 1 by omega) with e | e
      · subst e
        have e4 : s (30 + 6 * k + 4) = 1 := by omega
        rw [e4] at p4
        have y1 : (nI (sumTo (opn (gClose s k 0)) (s 1)) = nI (sumTo (opn s) (s 1) + 1)) = True := eq_true (congrArg nI (s2 e4))
        simp only [k103_286, k103_287, k103_288, k103_291, k103_293, k103_295, k103_297, k103_300, k103_301, k103_304, k103_305, k103_307, k103_308, k103_311, k103_313, k103_315, k103_317, k103_320, k103_322, k103_324, k103_327, k103_328, k103_331, k103_332, k103_335, k103_336, k103_339, k103_340, k103_342, k103_343, k103_345, k103_347, k103_350, k103_352, k103_354, k103_357, k103_359, k103_362, k103_364, k103_367, k103_369, k103_372, k103_374, k103_375, k103_376, k103_379, k103_381, k103_382, k103_383, k103_386, k103_388, k103_391, k103_393, k103_396, k103_397, k103_399, k103_400, k103_403, k103_405, k103_408, k103_409, k103_412, k103_413, k103_416, k103_417, k103_420, k103_421, rf_s, pushR_s, pushR_n, le4_0, le4_1, le4_2, le4_3, le4_4, isLong_n, isLong_i, isLong_r, isLong_f, if_true, if_false, not_true_eq_false, not_false_eq_true, isI_0, isI_9, isAr_0, isAr_1, isAr_2, isAr_9, okR_i, okR_0, okR_1, putI_0, putI_b0, putI_b1, nI_10, nI_00, Nat.reduceLT, Nat.reduceLeDiff, nI_add, upM_s, upI_s, pk_mul, nf_at, t0, t1, a1, p4, q4, cnt_2 K, z, z1, ne10, ne01, y1, eq_self]
      · subst e
        have e4 : s (30 + 6 * k + 4) = 0 := by omega
        rw [e4] at p4
        have y0 : nI (sumTo (opn s) (s 1)) - nI 1 = nI (sumTo (opn (gClose s k 1)) (s 1)) := by
          rw [s1 e4]
          exact pk_sub (by omega)
        simp only [k103_286, k103_287, k103_288, k103_291, k103_293, k103_295, k103_297, k103_300, k103_301, k103_304, k103_305, k103_307, k103_308, k103_311, k103_313, k103_315, k103_317, k103_320, k103_322, k103_324, k103_327, k103_328, k103_331, k103_332, k103_335, k103_336, k103_339, k103_340, k103_342, k103_343, k103_345, k103_347, k103_350, k103_352, k103_354, k103_357, k103_359, k103_362, k103_364, k103_367, k103_369, k103_372, k103_374, k103_375, k103_376, k103_379, k103_381, k103_382, k103_383, k103_386, k103_388, k103_391, k103_393, k103_396, k103_397, k103_399, k103_400, k103_403, k103_405, k103_408, k103_409, k103_412, k103_413, k103_416, k103_417, k103_420, k103_421, rf_s, pushR_s, pushR_n, le4_0, le4_1, le4_2, le4_3, le4_4, isLong_n, isLong_i, isLong_r, isLong_f, if_true, if_false, not_true_eq_false, not_false_eq_true, isI_0, isI_9, isAr_0, isAr_1, isAr_2, isAr_9, okR_i, okR_0, okR_1, putI_0, putI_b0, putI_b1, nI_10, nI_00, Nat.reduceLT, Nat.reduceLeDiff, nI_add, upM_s, upI_s, pk_mul, nf_at, t0, t1, a1, p4, q4, cnt_2 K, z, z1, ne10, ne01, y0, eq_self]
end PAT
