/-! the law's acts: laps, places, food, forgetting -/
section ACT
variable {L : Nat} {xs : Nat → Int32} {σ τ : Sg} {M M' : Mem} {I : Nat → Nat} {s s' : Nat → Nat} {H : Nat → Nat → Nat} {n len B : Nat} {T : Nat → Nat} {r : Int32}
/-- behind a call that changes -/
theorem Lw.e (K : Lw L xs σ M s H n len T B) (c : CC σ M τ M' s s' H n len T r) (p : PJ 0 s') (b : s' 2 ≤ s 2 + 5) : (er r → Lw L xs τ M' s H n len T (B + 400)) ∧ (nr r → Lw L xs τ M' s' (pH H n s) (pN n) len T (B + 400)) := by
  have q := K.b
  exact K.c c (by omega) p (by omega)
theorem er_1 : er (-1000000001) := Or.inl rfl
theorem er_2 : er (-1000000002) := Or.inr (Or.inl rfl)
theorem er_3 : er (-1000000003) := Or.inr (Or.inr (Or.inl rfl))
theorem neg_1 : ((-1000000001 : Int32) < 0) = True := eq_true (by decide)
theorem neg_2 : ((-1000000002 : Int32) < 0) = True := eq_true (by decide)
theorem neg_3 : ((-1000000003 : Int32) < 0) = True := eq_true (by decide)
theorem l102 (K : Lw L xs σ M s H n len T B) (y : Int32) : ∃ τ M' s' H' n', (∀ Q, wp 102 0 [some (.ref 0), some (.int y), none, none, none, none, none, none, none, none, none] [] σ M Q = Q (some (.int (nI 1))) τ M') ∧ Lw L xs τ M' s' H' n' len T (B + 400) ∧ Mv s H n s' H' n' := by
  have i := K.inv
  have pj := K.pj
  have t0 := K.t0
  have g0 := i.1.1
  obtain ⟨m, hm, a0⟩ : ∃ m, m ≤ 6 ∧ ∀ Q, wp 102 0 [some (.ref 0), some (.int y), none, none, none, none, none, none, none, none, none] [] σ M Q = wp 102 21 [some (.ref 0), some (.int y), some (.int (nI m)), none, none, none, none, none, none, none, none] [] σ M Q := by
    have l4 := fun Q => l95 (v := y >>> (nI 4 &&& 31)) (m := 4) (by omega) (by omega) (σ := σ) (M := M) Q
    have b4 := lw_lt (v := y >>> (nI 4 &&& 31)) (m := 4) (by omega)
    generalize lw (y >>> (nI 4 &&& 31)) 4 = q at *
    by_cases c : q = 0
    · have z : (nI q = 0) = True := eq_true (by rw [c]; exact nI_0)
      have l := fun Q => l95 (v := y) (m := 7) (by omega) (by omega) (σ := σ) (M := M) Q
      have b := lw_lt (v := y) (m := 7) (by omega)
      refine ⟨lw y 7, by omega, fun Q => ?_⟩
      simp only [k102_0, k102_1, k102_2, k102_3, k102_4, k102_5, k102_8, k102_11, k102_13, k102_16, k102_17, k102_20, rf_s, pushR_s, pushR_n, le4_0, le4_1, le4_2, le4_3, le4_4, isLong_n, isLong_i, isLong_r, isLong_f, if_true, if_false, not_true_eq_false, not_false_eq_true, isI_0, isI_9, isAr_0, isAr_1, isAr_2, isAr_9, okR_i, okR_0, okR_1, putI_0, putI_b0, putI_b1, nI_10, nI_00, Nat.reduceLT, Nat.reduceLeDiff, nI_add, upM_s, upI_s, pk_mul, nf_at, l4, z, l]
    · have z : ¬ nI q = 0 := nI_ne0 (by omega) (by omega)
      have l := fun Q => l95 (v := y) (m := 3) (by omega) (by omega) (σ := σ) (M := M) Q
      have b := lw_lt (v := y) (m := 3) (by omega)
      refine ⟨lw y 3, by omega, fun Q => ?_⟩
      simp only [k102_0, k102_1, k102_2, k102_3, k102_4, k102_5, k102_8, k102_11, k102_13, k102_16, k102_17, k102_20, rf_s, pushR_s, pushR_n, le4_0, le4_1, le4_2, le4_3, le4_4, isLong_n, isLong_i, isLong_r, isLong_f, if_true, if_false, not_true_eq_false, not_false_eq_true, isI_0, isI_9, isAr_0, isAr_1, isAr_2, isAr_9, okR_i, okR_0, okR_1, putI_0, putI_b0, putI_b1, nI_10, nI_00, Nat.reduceLT, Nat.reduceLeDiff, nI_add, upM_s, upI_s, pk_mul, nf_at, l4, z, l]
  obtain ⟨M1, a1, K1⟩ := e17 K (m := m) (w := 0) hm (by omega)
  obtain ⟨M2, a2, K2⟩ := e17 K1 (m := m) (w := 1) hm (by omega)
  obtain ⟨M3, a3, K3⟩ := e17 K2 (m := m) (w := 2) hm (by omega)
  obtain ⟨M4, a4, K4⟩ := e17 K3 (m := m) (w := 3) hm (by omega)
  obtain ⟨⟨I, l⟩, _⟩ := id K4
  by_cases d : m = 0 ∨ m = 6
  · have o : oLap s (nI m) (-1000000001) s := Or.inr ⟨fun ⟨q, q1, q2, q3⟩ => by
      have := (nI_eq (by omega) (by omega)).1 q3
      omega, rfl, rfl⟩
    obtain ⟨τ, M5, a5, b5⟩ := c6 l o
    have K5 := (K4.e b5 pj (by omega)).1 er_1
    rw [show wV s m 0 = -1000000001 from if_pos d] at a1
    refine ⟨τ, M5, s, H, n, fun Q => ?_, K5, Or.inl ⟨rfl, rfl, rfl⟩⟩
    rw [a0]
    by_cases d0 : m = 0
    · have z : (nI m = 0) = True := eq_true (by rw [d0]; exact nI_0)
      simp only [k102_21, k102_22, k102_23, k102_24, k102_27, k102_28, k102_29, k102_30, k102_31, k102_34, k102_36, k102_37, k102_38, k102_39, k102_42, k102_44, k102_45, k102_46, k102_47, k102_50, k102_52, k102_53, k102_54, k102_57, k102_59, k102_60, k102_61, k102_64, k102_66, k102_67, k102_69, k102_72, k102_74, k102_75, k102_76, k102_79, k102_81, k102_82, k102_85, k102_86, k102_88, k102_91, k102_93, k102_95, k102_98, k102_99, k102_101, k102_104, k102_105, k102_108, k102_109, rf_s, pushR_s, pushR_n, le4_0, le4_1, le4_2, le4_3, le4_4, isLong_n, isLong_i, isLong_r, isLong_f, if_true, if_false, not_true_eq_false, not_false_eq_true, isI_0, isI_9, isAr_0, isAr_1, isAr_2, isAr_9, okR_i, okR_0, okR_1, putI_0, putI_b0, putI_b1, nI_10, nI_00, Nat.reduceLT, Nat.reduceLeDiff, nI_add, upM_s, upI_s, pk_mul, nf_at, t0, a1, a2, a3, a4, a5, cnt_4 K4, cnt_3 K4, cnt_6 K4, z, eq_self]
    · have z : ¬ nI m = 0 := nI_ne0 (by omega) (by omega)
      have z6 : (nI m = nI 6) = True := eq_true (by rw [show m = 6 by omega])
      simp only [k102_21, k102_22, k102_23, k102_24, k102_27, k102_28, k102_29, k102_30, k102_31, k102_34, k102_36, k102_37, k102_38, k102_39, k102_42, k102_44, k102_45, k102_46, k102_47, k102_50, k102_52, k102_53, k102_54, k102_57, k102_59, k102_60, k102_61, k102_64, k102_66, k102_67, k102_69, k102_72, k102_74, k102_75, k102_76, k102_79, k102_81, k102_82, k102_85, k102_86, k102_88, k102_91, k102_93, k102_95, k102_98, k102_99, k102_101, k102_104, k102_105, k102_108, k102_109, rf_s, pushR_s, pushR_n, le4_0, le4_1, le4_2, le4_3, le4_4, isLong_n, isLong_i, isLong_r, isLong_f, if_true, if_false, not_true_eq_false, not_false_eq_true, isI_0, isI_9, isAr_0, isAr_1, isAr_2, isAr_9, okR_i, okR_0, okR_1, putI_0, putI_b0, putI_b1, nI_10, nI_00, Nat.reduceLT, Nat.reduceLeDiff, nI_add, upM_s, upI_s, pk_mul, nf_at, t0, a1, a2, a3, a4, a5, cnt_4 K4, cnt_3 K4, cnt_6 K4, z, z6, eq_self]
  · have z : ¬ nI m = 0 := nI_ne0 (by omega) (by omega)
    have z6 : ¬ nI m = nI 6 := ne_n (by omega) (by omega) (by omega)
    by_cases c : s 0 < 2
    · have o : oLap s (nI m) (-1000000002) s := Or.inl ⟨m, rfl, by omega, by omega, Or.inl ⟨c, rfl, rfl⟩⟩
      obtain ⟨τ, M5, a5, b5⟩ := c6 l o
      have K5 := (K4.e b5 pj (by omega)).1 er_2
      have t5 := K5.t0
      rw [show wV s m 0 = -1000000002 from by unfold wV; rw [if_neg d, if_pos c]] at a1
      have lt : nI (s 0) < nI 2 := nI_lt c (by omega)
      refine ⟨τ, M5, s, H, n, fun Q => ?_, K5, Or.inl ⟨rfl, rfl, rfl⟩⟩
      rw [a0]
      simp only [k102_21, k102_22, k102_23, k102_24, k102_27, k102_28, k102_29, k102_30, k102_31, k102_34, k102_36, k102_37, k102_38, k102_39, k102_42, k102_44, k102_45, k102_46, k102_47, k102_50, k102_52, k102_53, k102_54, k102_57, k102_59, k102_60, k102_61, k102_64, k102_66, k102_67, k102_69, k102_72, k102_74, k102_75, k102_76, k102_79, k102_81, k102_82, k102_85, k102_86, k102_88, k102_91, k102_93, k102_95, k102_98, k102_99, k102_101, k102_104, k102_105, k102_108, k102_109, k102_110, k102_111, k102_112, k102_115, k102_116, k102_119, k102_121, k102_123, k102_126, k102_127, k102_129, k102_132, k102_133, k102_136, k102_137, rf_s, pushR_s, pushR_n, le4_0, le4_1, le4_2, le4_3, le4_4, isLong_n, isLong_i, isLong_r, isLong_f, if_true, if_false, not_true_eq_false, not_false_eq_true, isI_0, isI_9, isAr_0, isAr_1, isAr_2, isAr_9, okR_i, okR_0, okR_1, putI_0, putI_b0, putI_b1, nI_10, nI_00, Nat.reduceLT, Nat.reduceLeDiff, nI_add, upM_s, upI_s, pk_mul, nf_at, t0, t5, a1, a2, a3, a4, a5, cnt_4 K4, cnt_3 K4, cnt_6 K4, cnt_0 K5, z, z6, lt, eq_self]
    · have o : oLap s (nI m) (nI (lapN s m 4 - s 4)) (lapN s m) := Or.inl ⟨m, rfl, by omega, by omega, Or.inr ⟨by omega, rfl, rfl⟩⟩
      obtain ⟨j1, j2, j3, j4⟩ := lapN_ok i (by omega) m
      obtain ⟨p1, p2, p3, p4, p5, p6⟩ := lapN_p i (by omega) pj m
      obtain ⟨f, h, r1, r2, r3, r4, r5, r6⟩ := would_ok i K.ex (by omega) pj (n := m) (by omega)
      obtain ⟨τ, M5, a5, b5⟩ := c6 l o
      have K5 := (K4.e b5 p1 (by omega)).2 (nr_nI (by omega))
      have t5 := K5.t0
      rw [show wV s m 0 = nI f from by unfold wV; rw [if_neg d, if_neg c, r1]] at a1
      rw [show wV s m 1 = nI h from by unfold wV; rw [if_neg d, if_neg c, r2]] at a2
      rw [show wV s m 2 = aWould s m 2 from by unfold wV; rw [if_neg d, if_neg c]] at a3
      rw [show wV s m 3 = aWould s m 3 from by unfold wV; rw [if_neg d, if_neg c]] at a4
      have lt : ¬ nI (lapN s m 0) < nI 2 := nI_nlt (by omega) (by omega)
      have q1 : (nI (lapN s m 4 - s 4) = nI f) = True := eq_true r5
      have q2 : (nI (lapN s m 2) = nI (s 2 + m)) = True := eq_true (congrArg nI p2)
      have q3 : (nI (lapN s m 3) = nI (s 3 + m * lapN s m 13)) = True := eq_true (by rw [p3, p6])
      have q4 : (nI (lapN s m 5) = nI (s 5 + h)) = True := eq_true (by rw [← nI_add, r6])
      have q5 : (bV (lapN s m) 0 = aWould s m 2) = True := eq_true rfl
      have q6 : (nI (sumTo (trl (lapN s m)) (lapN s m 1)) = aWould s m 3) = True := eq_true rfl
      have b0 := fun Q => e11 K5 (w := 0) (by omega) Q
      refine ⟨τ, M5, lapN s m, pH H n s, pN n, fun Q => ?_, K5, Or.inr ⟨rfl, rfl⟩⟩
      rw [a0]
      simp only [k102_21, k102_22, k102_23, k102_24, k102_27, k102_28, k102_29, k102_30, k102_31, k102_34, k102_36, k102_37, k102_38, k102_39, k102_42, k102_44, k102_45, k102_46, k102_47, k102_50, k102_52, k102_53, k102_54, k102_57, k102_59, k102_60, k102_61, k102_64, k102_66, k102_67, k102_69, k102_72, k102_74, k102_75, k102_76, k102_79, k102_81, k102_82, k102_85, k102_86, k102_88, k102_91, k102_93, k102_95, k102_98, k102_99, k102_101, k102_104, k102_105, k102_108, k102_109, k102_110, k102_111, k102_112, k102_115, k102_116, k102_119, k102_121, k102_123, k102_126, k102_127, k102_129, k102_132, k102_133, k102_136, k102_137, k102_138, k102_140, k102_141, k102_144, k102_145, k102_146, k102_149, k102_151, k102_152, k102_153, k102_156, k102_157, k102_158, k102_161, k102_163, k102_164, k102_165, k102_167, k102_170, k102_171, k102_172, k102_175, k102_176, k102_178, k102_181, k102_183, k102_185, k102_186, k102_189, k102_190, k102_191, k102_194, k102_196, k102_199, k102_200, k102_202, k102_205, k102_207, k102_210, k102_211, k102_214, k102_215, rf_s, pushR_s, pushR_n, le4_0, le4_1, le4_2, le4_3, le4_4, isLong_n, isLong_i, isLong_r, isLong_f, if_true, if_false, not_true_eq_false, not_false_eq_true, isI_0, isI_9, isAr_0, isAr_1, isAr_2, isAr_9, okR_i, okR_0, okR_1, putI_0, putI_b0, putI_b1, nI_10, nI_00, Nat.reduceLT, Nat.reduceLeDiff, nI_add, upM_s, upI_s, pk_mul, nf_at, t0, t5, a1, a2, a3, a4, a5, b0, cnt_4 K4, cnt_3 K4, cnt_6 K4, cnt_0 K5, cnt_3 K5, cnt_4 K5, cnt_20 K5, cnt_6 K5, cnt_8 K5, z, z6, lt, q1, q2, q3, q4, q5, q6, eq_self]
theorem ac_pl (K : Lw L xs σ M s H n len T B) (l1 l2 l3 l5 l6 l7 l8 l9 l10 l11 : Option Value) : ∃ τ M' s' H' n', (∀ Q, wp 103 26 [some (.ref 0), l1, l2, l3, some (.int (nI (s 0))), l5, l6, l7, l8, l9, l10, l11] [] σ M Q = Q (some (.int (nI 1))) τ M') ∧ Lw L xs τ M' s' H' n' len T (B + 400) ∧ Mv s H n s' H' n' := by
  have i := K.inv
  have pj := K.pj
  have t0 := K.t0
  obtain ⟨⟨I, l⟩, _⟩ := id K
  obtain ⟨r, s', o⟩ := oPlace_ex i
  obtain ⟨τ, M1, a1, b1⟩ := c2 l o
  have p' := oPlace_p i pj o
  rcases o with ⟨h1, h2, h3⟩ | ⟨h1, h2, h3⟩
  · subst h2
    have K1 := (K.e b1 p' (by rw [h3]; omega)).1 er_3
    have z : (nI (s 0) = nI 10) = True := eq_true (congrArg nI h1)
    refine ⟨τ, M1, s, H, n, fun Q => ?_, K1, Or.inl ⟨rfl, rfl, rfl⟩⟩
    simp only [k103_26, k103_27, k103_30, k103_32, k103_34, k103_37, k103_39, k103_42, k103_44, k103_47, k103_48, k103_51, k103_52, rf_s, pushR_s, pushR_n, le4_0, le4_1, le4_2, le4_3, le4_4, isLong_n, isLong_i, isLong_r, isLong_f, if_true, if_false, not_true_eq_false, not_false_eq_true, isI_0, isI_9, isAr_0, isAr_1, isAr_2, isAr_9, okR_i, okR_0, okR_1, putI_0, putI_b0, putI_b1, nI_10, nI_00, Nat.reduceLT, Nat.reduceLeDiff, nI_add, upM_s, upI_s, pk_mul, nf_at, t0, a1, z, eq_self]
  · subst h2
    have K1 := (K.e b1 p' (by rw [h3, upN_n (by omega)]; omega)).2 (nr_nI (by omega))
    have z : ¬ nI (s 0) = nI 10 := ne_n (by omega) (by omega) (by omega)
    refine ⟨τ, M1, s', pH H n s, pN n, fun Q => ?_, K1, Or.inr ⟨rfl, rfl⟩⟩
    simp only [k103_26, k103_27, k103_30, k103_32, k103_34, k103_37, k103_39, k103_42, k103_44, k103_47, k103_48, k103_51, k103_52, rf_s, pushR_s, pushR_n, le4_0, le4_1, le4_2, le4_3, le4_4, isLong_n, isLong_i, isLong_r, isLong_f, if_true, if_false, not_true_eq_false, not_false_eq_true, isI_0, isI_9, isAr_0, isAr_1, isAr_2, isAr_9, okR_i, okR_0, okR_1, putI_0, putI_b0, putI_b1, nI_10, nI_00, Nat.reduceLT, Nat.reduceLeDiff, nI_add, upM_s, upI_s, pk_mul, nf_at, t0, a1, z, eq_self]
theorem ac_fo (K : Lw L xs σ M s H n len T B) (y : Int32) (l1 l3 l5 l6 l7 l8 l9 l10 l11 : Option Value) (h5 : isLong l5 = false) : ∃ τ M' s' H' n', (∀ Q, wp 103 428 [some (.ref 0), l1, some (.int y), l3, some (.int (nI (s 0))), l5, l6, l7, l8, l9, l10, l11] [] σ M Q = Q (some (.int (nI 1))) τ M') ∧ Lw L xs τ M' s' H' n' len T (B + 400) ∧ Mv s H n s' H' n' := by
  have i := K.inv
  have pj := K.pj
  have t0 := K.t0
  have g0 := i.1.1
  have f := i.2.2.1
  unfold fOk at f
  obtain ⟨⟨I, l⟩, _⟩ := id K
  have lp := fun Q => l95 (v := y) (m := s 0 + 1) (by omega) (by omega) (σ := σ) (M := M) Q
  have bp := lw_lt (v := y) (m := s 0 + 1) (by omega)
  generalize lw y (s 0 + 1) = p at *
  by_cases c : p = 0 ∨ p = s 0
  · have o : oFood s (nI p) (-1000000001) s := by
      refine Or.inr ⟨?_, rfl, rfl⟩
      by_cases c1 : p = s 0
      · refine Or.inl ?_
        rintro ⟨q, q1, q2⟩
        have := (nI_eq (by omega) (by omega)).1 q2
        omega
      · exact Or.inr ⟨⟨p, by omega, rfl⟩, congrArg nI (by omega)⟩
    obtain ⟨τ, M1, a1, b1⟩ := c5 l o
    have K1 := (K.e b1 pj (by omega)).1 er_1
    refine ⟨τ, M1, s, H, n, fun Q => ?_, K1, Or.inl ⟨rfl, rfl, rfl⟩⟩
    by_cases c0 : p = 0
    · have z : (nI p = 0) = True := eq_true (by rw [c0]; exact nI_0)
      simp only [k103_428, k103_429, k103_431, k103_432, k103_433, k103_436, k103_438, k103_439, k103_441, k103_444, k103_446, k103_447, k103_449, k103_452, k103_454, k103_456, k103_458, k103_461, k103_463, k103_465, k103_468, k103_470, k103_473, k103_475, k103_477, k103_480, k103_482, k103_485, k103_487, k103_490, k103_492, k103_495, k103_496, k103_497, k103_500, k103_502, k103_505, k103_506, k103_508, k103_511, k103_513, k103_516, k103_517, k103_520, k103_521, rf_s, pushR_s, pushR_n, le4_0, le4_1, le4_2, le4_3, le4_4, isLong_n, isLong_i, isLong_r, isLong_f, if_true, if_false, not_true_eq_false, not_false_eq_true, isI_0, isI_9, isAr_0, isAr_1, isAr_2, isAr_9, okR_i, okR_0, okR_1, putI_0, putI_b0, putI_b1, nI_10, nI_00, Nat.reduceLT, Nat.reduceLeDiff, nI_add, upM_s, upI_s, pk_mul, nf_at, t0, h5, lp, a1, cnt_10 K, z, neg_1, eq_self]
    · have z : ¬ nI p = 0 := nI_ne0 (by omega) (by omega)
      have z1 : (nI p = nI (s 0)) = True := eq_true (congrArg nI (by omega))
      simp only [k103_428, k103_429, k103_431, k103_432, k103_433, k103_436, k103_438, k103_439, k103_441, k103_444, k103_446, k103_447, k103_449, k103_452, k103_454, k103_456, k103_458, k103_461, k103_463, k103_465, k103_468, k103_470, k103_473, k103_475, k103_477, k103_480, k103_482, k103_485, k103_487, k103_490, k103_492, k103_495, k103_496, k103_497, k103_500, k103_502, k103_505, k103_506, k103_508, k103_511, k103_513, k103_516, k103_517, k103_520, k103_521, rf_s, pushR_s, pushR_n, le4_0, le4_1, le4_2, le4_3, le4_4, isLong_n, isLong_i, isLong_r, isLong_f, if_true, if_false, not_true_eq_false, not_false_eq_true, isI_0, isI_9, isAr_0, isAr_1, isAr_2, isAr_9, okR_i, okR_0, okR_1, putI_0, putI_b0, putI_b1, nI_10, nI_00, Nat.reduceLT, Nat.reduceLeDiff, nI_add, upM_s, upI_s, pk_mul, nf_at, t0, h5, lp, a1, cnt_10 K, z, z1, neg_1, eq_self]
  · have z : ¬ nI p = 0 := nI_ne0 (by omega) (by omega)
    have z1 : ¬ nI p = nI (s 0) := ne_n (by omega) (by omega) (by omega)
    by_cases c7 : p = s 7
    · have o : oFood s (nI p) (-1000000002) s := Or.inl ⟨p, rfl, by omega, by omega, Or.inl ⟨c7.symm, rfl, rfl⟩⟩
      obtain ⟨τ, M1, a1, b1⟩ := c5 l o
      have K1 := (K.e b1 pj (by omega)).1 er_2
      have z7 : (nI p = nI (s 7)) = True := eq_true (congrArg nI c7)
      refine ⟨τ, M1, s, H, n, fun Q => ?_, K1, Or.inl ⟨rfl, rfl, rfl⟩⟩
      simp only [k103_428, k103_429, k103_431, k103_432, k103_433, k103_436, k103_438, k103_439, k103_441, k103_444, k103_446, k103_447, k103_449, k103_452, k103_454, k103_456, k103_458, k103_461, k103_463, k103_465, k103_468, k103_470, k103_473, k103_475, k103_477, k103_480, k103_482, k103_485, k103_487, k103_490, k103_492, k103_495, k103_496, k103_497, k103_500, k103_502, k103_505, k103_506, k103_508, k103_511, k103_513, k103_516, k103_517, k103_520, k103_521, rf_s, pushR_s, pushR_n, le4_0, le4_1, le4_2, le4_3, le4_4, isLong_n, isLong_i, isLong_r, isLong_f, if_true, if_false, not_true_eq_false, not_false_eq_true, isI_0, isI_9, isAr_0, isAr_1, isAr_2, isAr_9, okR_i, okR_0, okR_1, putI_0, putI_b0, putI_b1, nI_10, nI_00, Nat.reduceLT, Nat.reduceLeDiff, nI_add, upM_s, upI_s, pk_mul, nf_at, t0, h5, lp, a1, cnt_10 K, z, z1, z7, neg_2, eq_self]
    · have o : oFood s (nI p) (nI (s 7)) (gFood s p) := Or.inl ⟨p, rfl, by omega, by omega, Or.inr ⟨fun e => c7 e.symm, rfl, rfl⟩⟩
      obtain ⟨τ, M1, a1, b1⟩ := c5 l o
      have K1 := (K.e b1 (oFood_p pj o) (by unfold gFood; rw [upN_n (by omega), upN_n (by omega)]; omega)).2 (nr_nI (by omega))
      have t1 := K1.t0
      have z7 : ¬ nI p = nI (s 7) := ne_n (by omega) (by omega) c7
      have z8 : ¬ nI (s 7) < 0 := nI_pos (by omega)
      have b0 := fun Q => e11 K1 (w := 0) (by omega) Q
      rw [show bV (gFood s p) 0 = -1000000004 from if_pos upN_s] at b0
      have c10 := cnt_10 K1
      rw [show gFood s p 7 = p from by unfold gFood; rw [upN_n (by omega), upN_s]] at c10
      refine ⟨τ, M1, gFood s p, pH H n s, pN n, fun Q => ?_, K1, Or.inr ⟨rfl, rfl⟩⟩
      simp only [k103_428, k103_429, k103_431, k103_432, k103_433, k103_436, k103_438, k103_439, k103_441, k103_444, k103_446, k103_447, k103_449, k103_452, k103_454, k103_456, k103_458, k103_461, k103_463, k103_465, k103_468, k103_470, k103_473, k103_475, k103_477, k103_480, k103_482, k103_485, k103_487, k103_490, k103_492, k103_495, k103_496, k103_497, k103_500, k103_502, k103_505, k103_506, k103_508, k103_511, k103_513, k103_516, k103_517, k103_520, k103_521, rf_s, pushR_s, pushR_n, le4_0, le4_1, le4_2, le4_3, le4_4, isLong_n, isLong_i, isLong_r, isLong_f, if_true, if_false, not_true_eq_false, not_false_eq_true, isI_0, isI_9, isAr_0, isAr_1, isAr_2, isAr_9, okR_i, okR_0, okR_1, putI_0, putI_b0, putI_b1, nI_10, nI_00, Nat.reduceLT, Nat.reduceLeDiff, nI_add, upM_s, upI_s, pk_mul, nf_at, t0, t1, h5, lp, a1, b0, c10, cnt_10 K, z, z1, z7, z8, eq_self]
theorem ac_fg (K : Lw L xs σ M s H n len T B) (l1 l2 l3 l4 l6 l7 l8 l9 l10 l11 : Option Value) : ∃ τ M' s' H' n', (∀ Q, wp 103 528 [some (.ref 0), l1, l2, l3, l4, some (.int (nI (s 1))), l6, l7, l8, l9, l10, l11] [] σ M Q = Q (some (.int (nI 1))) τ M') ∧ Lw L xs τ M' s' H' n' len T (B + 400) ∧ Mv s H n s' H' n' := by
  have i := K.inv
  have pj := K.pj
  have t0 := K.t0
  obtain ⟨⟨I, l⟩, _⟩ := id K
  obtain ⟨s', hs⟩ : ∃ s', s' = mapT (upN s 9 0) (s 1) (fun _ => s 17) := ⟨_, rfl⟩
  have o : oForget s (nI (sumTo (trl s) (s 1)) - nI (sumTo (trl s') (s 1))) s' := ⟨rfl, hs⟩
  obtain ⟨τ, M1, a1, b1⟩ := c7 l o
  have iv := oForget_inv i o
  have e1 : s' 1 = s 1 := iv.2.2
  have K1 := (K.e b1 (oForget_p i pj o) (by rw [hs, mapT_lo (by omega), upN_n (by omega)]; omega)).2 iv.2.1
  have t1 := K1.t0
  have e17 : s' 17 = s 17 := by rw [hs, mapT_lo (by omega), upN_n (by omega)]
  have e9 : s' 9 = 0 := by rw [hs, mapT_lo (by omega), upN_s]
  have e8 := tr_of (s := s') (s 17) (fun k hk => by rw [hs]; exact mapT_3 (by omega)) (s' 1) (Nat.le_refl _)
  have c8 := cnt_8 K1
  rw [e1] at c8
  have q1 : (nI (sumTo (trl s') (s 1)) = nI (s 1 * s' 17)) = True := eq_true (by
    rw [e1] at e8
    rw [e8, e17])
  have b0 := fun Q => e11 K1 (w := 0) (by omega) Q
  rw [show bV s' 0 = -1000000004 from if_pos e9] at b0
  refine ⟨τ, M1, s', pH H n s, pN n, fun Q => ?_, K1, Or.inr ⟨rfl, rfl⟩⟩
  simp only [k103_528, k103_529, k103_531, k103_534, k103_536, k103_537, k103_540, k103_542, k103_544, k103_546, k103_547, k103_549, k103_552, k103_553, k103_556, k103_557, k103_559, k103_562, k103_564, k103_565, k103_567, k103_570, k103_571, k103_574, k103_575, k103_576, k103_579, k103_581, k103_584, k103_585, k103_588, k103_589, rf_s, pushR_s, pushR_n, le4_0, le4_1, le4_2, le4_3, le4_4, isLong_n, isLong_i, isLong_r, isLong_f, if_true, if_false, not_true_eq_false, not_false_eq_true, isI_0, isI_9, isAr_0, isAr_1, isAr_2, isAr_9, okR_i, okR_0, okR_1, putI_0, putI_b0, putI_b1, nI_10, nI_00, Nat.reduceLT, Nat.reduceLeDiff, nI_add, upM_s, upI_s, pk_mul, nf_at, t0, t1, a1, b0, c8, cnt_8 K, cnt_24 K1, q1, eq_self]
end ACT
