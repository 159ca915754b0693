/-! the law types a text -/
section TYP
variable {L : Nat} {xs : Nat → Int32} {σ : Sg} {M : Mem} {s : Nat → Nat} {H : Nat → Nat → Nat} {n len B : Nat} {T : Nat → Nat}
theorem rem_sub (a d : Nat) : nI a - nI (a / d * d) = nI (a % d) := by
  rw [pk_sub (Nat.div_mul_le_self a d)]
  congr 1
  have := Nat.div_add_mod a d
  rw [Nat.mul_comm] at this
  omega
theorem pos_n {a : Nat} (h : a < 1000000) : 0 < nI (a + 1) := by
  have q := nI_lt (a := 0) (b := a + 1) (by omega) (by omega)
  rw [nI_0] at q
  exact q
theorem l99 (K : Lw L xs σ M s H n len T B) (hl : len ≤ 56) {v : Nat} (hv : v < 10000) : ∃ M' len' T', (∀ Q, wp 99 0 [some (.ref 0), some (.int (nI v))] [] σ M Q = Q (some (.int (nI 1))) σ M') ∧ Lw L xs σ M' s H n len' T' B ∧ len' ≤ len + 4 ∧ (v < 100 → len' ≤ len + 2) := by
  have t0 := K.t0
  have z1 : ¬ nI 10 = 0 := nI_ne0 (by omega) (by omega)
  have z2 : ¬ nI 100 = 0 := nI_ne0 (by omega) (by omega)
  have z3 : ¬ nI 1000 = 0 := nI_ne0 (by omega) (by omega)
  have d1 : nI v / nI 1000 = nI (v / 1000) := pk_div (by omega) (by omega) (by omega)
  have d2 : nI v / nI 100 = nI (v / 100) := pk_div (by omega) (by omega) (by omega)
  have d3 : nI v / nI 10 = nI (v / 10) := pk_div (by omega) (by omega) (by omega)
  have d4 : nI (v / 100) / nI 10 = nI (v / 100 / 10) := pk_div (by omega) (by omega) (by omega)
  have d5 : nI (v / 10) / nI 10 = nI (v / 10 / 10) := pk_div (by omega) (by omega) (by omega)
  have p1 := pos_n (a := len) (by omega)
  have p2 := pos_n (a := len + 1) (by omega)
  have p3 := pos_n (a := len + 1 + 1) (by omega)
  have p4 := pos_n (a := len + 1 + 1 + 1) (by omega)
  by_cases c1 : v < 10
  · have x1 : nI v < nI 1000 := nI_lt (by omega) (by omega)
    have x2 : nI v < nI 100 := nI_lt (by omega) (by omega)
    have x3 : nI v < nI 10 := nI_lt (by omega) (by omega)
    obtain ⟨M1, a1, K1⟩ := e20 K (c := 48 + v % 10) (by omega) (by omega) (by omega)
    refine ⟨M1, _, _, fun Q => ?_, K1, by omega, fun _ => by omega⟩
    simp only [k99_0, k99_1, k99_4, k99_7, k99_8, k99_10, k99_11, k99_14, k99_15, k99_16, k99_19, k99_22, k99_23, k99_25, k99_28, k99_29, k99_31, k99_32, k99_34, k99_35, k99_37, k99_38, k99_39, k99_42, k99_45, k99_46, k99_48, k99_51, k99_52, k99_54, k99_55, k99_57, k99_58, k99_60, k99_61, k99_62, k99_65, k99_68, k99_69, k99_71, k99_72, k99_74, k99_75, k99_76, k99_79, k99_82, k99_83, k99_86, k99_87, rf_s, pushR_s, pushR_n, le4_0, le4_1, le4_2, le4_3, le4_4, isLong_n, isLong_i, isLong_r, isLong_f, if_true, if_false, not_true_eq_false, not_false_eq_true, isI_0, isI_9, isAr_0, isAr_1, isAr_2, isAr_9, okR_i, okR_0, okR_1, putI_0, putI_b0, putI_b1, nI_10, nI_00, Nat.reduceLT, Nat.reduceLeDiff, nI_add, upM_s, upI_s, pk_mul, nf_at, t0, z1, z2, z3, d1, d2, d3, d4, d5, rem_sub, x1, x2, x3, a1, p1]
  · have y3 : ¬ nI v < nI 10 := nI_nlt (by omega) (by omega)
    by_cases c2 : v < 100
    · have x1 : nI v < nI 1000 := nI_lt (by omega) (by omega)
      have x2 : nI v < nI 100 := nI_lt (by omega) (by omega)
      obtain ⟨M1, a1, K1⟩ := e20 K (c := 48 + v / 10 % 10) (by omega) (by omega) (by omega)
      obtain ⟨M2, a2, K2⟩ := e20 K1 (c := 48 + v % 10) (by omega) (by omega) (by omega)
      refine ⟨M2, _, _, fun Q => ?_, K2, by omega, fun _ => by omega⟩
      simp only [k99_0, k99_1, k99_4, k99_7, k99_8, k99_10, k99_11, k99_14, k99_15, k99_16, k99_19, k99_22, k99_23, k99_25, k99_28, k99_29, k99_31, k99_32, k99_34, k99_35, k99_37, k99_38, k99_39, k99_42, k99_45, k99_46, k99_48, k99_51, k99_52, k99_54, k99_55, k99_57, k99_58, k99_60, k99_61, k99_62, k99_65, k99_68, k99_69, k99_71, k99_72, k99_74, k99_75, k99_76, k99_79, k99_82, k99_83, k99_86, k99_87, rf_s, pushR_s, pushR_n, le4_0, le4_1, le4_2, le4_3, le4_4, isLong_n, isLong_i, isLong_r, isLong_f, if_true, if_false, not_true_eq_false, not_false_eq_true, isI_0, isI_9, isAr_0, isAr_1, isAr_2, isAr_9, okR_i, okR_0, okR_1, putI_0, putI_b0, putI_b1, nI_10, nI_00, Nat.reduceLT, Nat.reduceLeDiff, nI_add, upM_s, upI_s, pk_mul, nf_at, t0, z1, z2, z3, d1, d2, d3, d4, d5, rem_sub, x1, x2, y3, a1, a2, p1, p2]
    · have y2 : ¬ nI v < nI 100 := nI_nlt (by omega) (by omega)
      by_cases c3 : v < 1000
      · have x1 : nI v < nI 1000 := nI_lt (by omega) (by omega)
        obtain ⟨M1, a1, K1⟩ := e20 K (c := 48 + v / 100 % 10) (by omega) (by omega) (by omega)
        obtain ⟨M2, a2, K2⟩ := e20 K1 (c := 48 + v / 10 % 10) (by omega) (by omega) (by omega)
        obtain ⟨M3, a3, K3⟩ := e20 K2 (c := 48 + v % 10) (by omega) (by omega) (by omega)
        refine ⟨M3, _, _, fun Q => ?_, K3, by omega, fun h => absurd h c2⟩
        simp only [k99_0, k99_1, k99_4, k99_7, k99_8, k99_10, k99_11, k99_14, k99_15, k99_16, k99_19, k99_22, k99_23, k99_25, k99_28, k99_29, k99_31, k99_32, k99_34, k99_35, k99_37, k99_38, k99_39, k99_42, k99_45, k99_46, k99_48, k99_51, k99_52, k99_54, k99_55, k99_57, k99_58, k99_60, k99_61, k99_62, k99_65, k99_68, k99_69, k99_71, k99_72, k99_74, k99_75, k99_76, k99_79, k99_82, k99_83, k99_86, k99_87, rf_s, pushR_s, pushR_n, le4_0, le4_1, le4_2, le4_3, le4_4, isLong_n, isLong_i, isLong_r, isLong_f, if_true, if_false, not_true_eq_false, not_false_eq_true, isI_0, isI_9, isAr_0, isAr_1, isAr_2, isAr_9, okR_i, okR_0, okR_1, putI_0, putI_b0, putI_b1, nI_10, nI_00, Nat.reduceLT, Nat.reduceLeDiff, nI_add, upM_s, upI_s, pk_mul, nf_at, t0, z1, z2, z3, d1, d2, d3, d4, d5, rem_sub, x1, y2, y3, a1, a2, a3, p1, p2, p3]
      · have y1 : ¬ nI v < nI 1000 := nI_nlt (by omega) (by omega)
        obtain ⟨M1, a1, K1⟩ := e20 K (c := 48 + v / 1000) (by omega) (by omega) (by omega)
        obtain ⟨M2, a2, K2⟩ := e20 K1 (c := 48 + v / 100 % 10) (by omega) (by omega) (by omega)
        obtain ⟨M3, a3, K3⟩ := e20 K2 (c := 48 + v / 10 % 10) (by omega) (by omega) (by omega)
        obtain ⟨M4, a4, K4⟩ := e20 K3 (c := 48 + v % 10) (by omega) (by omega) (by omega)
        refine ⟨M4, _, _, fun Q => ?_, K4, by omega, fun h => absurd h c2⟩
        simp only [k99_0, k99_1, k99_4, k99_7, k99_8, k99_10, k99_11, k99_14, k99_15, k99_16, k99_19, k99_22, k99_23, k99_25, k99_28, k99_29, k99_31, k99_32, k99_34, k99_35, k99_37, k99_38, k99_39, k99_42, k99_45, k99_46, k99_48, k99_51, k99_52, k99_54, k99_55, k99_57, k99_58, k99_60, k99_61, k99_62, k99_65, k99_68, k99_69, k99_71, k99_72, k99_74, k99_75, k99_76, k99_79, k99_82, k99_83, k99_86, k99_87, rf_s, pushR_s, pushR_n, le4_0, le4_1, le4_2, le4_3, le4_4, isLong_n, isLong_i, isLong_r, isLong_f, if_true, if_false, not_true_eq_false, not_false_eq_true, isI_0, isI_9, isAr_0, isAr_1, isAr_2, isAr_9, okR_i, okR_0, okR_1, putI_0, putI_b0, putI_b1, nI_10, nI_00, Nat.reduceLT, Nat.reduceLeDiff, nI_add, upM_s, upI_s, pk_mul, nf_at, t0, z1, z2, z3, d1, d2, d3, d4, d5, rem_sub, y1, y2, y3, a1, a2, a3, a4, p1, p2, p3, p4]
/-- the sign of an order -/
theorem tch (x : Int32) {w : Nat} (hw : w < 12) (l2 l3 l4 l5 l7 l8 l9 : Option Value) (σ : Sg) (M : Mem) : ∃ c, 32 ≤ c ∧ c ≤ 126 ∧ ∀ Q, wp 100 74 [some (.ref 0), some (.int x), l2, l3, l4, l5, some (.int (nI w)), l7, l8, l9] [] σ M Q = wp 100 152 [some (.ref 0), some (.int x), l2, l3, l4, l5, some (.int (nI w)), l7, l8, l9] [.int (nI c), .ref 0] σ M Q := by
  have l17 := fun Q => l95 (v := x >>> (nI 23 &&& 31)) (m := 17) (by omega) (by omega) (σ := σ) (M := M) Q
  have b17 := lw_lt (v := x >>> (nI 23 &&& 31)) (m := 17) (by omega)
  generalize lw (x >>> (nI 23 &&& 31)) 17 = q at *
  by_cases c0 : q = 0
  · have z : (nI q = 0) = True := eq_true (by rw [c0]; exact nI_0)
    refine ⟨113, by omega, by omega, fun Q => ?_⟩
    simp only [k100_74, k100_75, k100_76, k100_78, k100_79, k100_81, k100_84, k100_87, k100_89, k100_92, k100_94, k100_95, k100_98, k100_100, k100_103, k100_105, k100_106, k100_109, k100_111, k100_114, k100_116, k100_118, k100_121, k100_123, k100_126, k100_128, k100_130, k100_133, k100_135, k100_138, k100_140, k100_142, k100_145, k100_147, k100_150, rf_s, pushR_s, pushR_n, le4_0, le4_1, le4_2, le4_3, le4_4, isLong_n, isLong_i, isLong_r, isLong_f, if_true, if_false, not_true_eq_false, not_false_eq_true, isI_0, isI_9, isAr_0, isAr_1, isAr_2, isAr_9, okR_i, okR_0, okR_1, putI_0, putI_b0, putI_b1, nI_10, nI_00, Nat.reduceLT, Nat.reduceLeDiff, nI_add, upM_s, upI_s, pk_mul, nf_at, l17, z]
  · have z : ¬ nI q = 0 := nI_ne0 (by omega) (by omega)
    by_cases c1 : w < 3
    · have y1 : nI w < nI 3 := nI_lt c1 (by omega)
      refine ⟨112, by omega, by omega, fun Q => ?_⟩
      simp only [k100_74, k100_75, k100_76, k100_78, k100_79, k100_81, k100_84, k100_87, k100_89, k100_92, k100_94, k100_95, k100_98, k100_100, k100_103, k100_105, k100_106, k100_109, k100_111, k100_114, k100_116, k100_118, k100_121, k100_123, k100_126, k100_128, k100_130, k100_133, k100_135, k100_138, k100_140, k100_142, k100_145, k100_147, k100_150, rf_s, pushR_s, pushR_n, le4_0, le4_1, le4_2, le4_3, le4_4, isLong_n, isLong_i, isLong_r, isLong_f, if_true, if_false, not_true_eq_false, not_false_eq_true, isI_0, isI_9, isAr_0, isAr_1, isAr_2, isAr_9, okR_i, okR_0, okR_1, putI_0, putI_b0, putI_b1, nI_10, nI_00, Nat.reduceLT, Nat.reduceLeDiff, nI_add, upM_s, upI_s, pk_mul, nf_at, l17, z, y1]
    · have y1 : ¬ nI w < nI 3 := nI_nlt (by omega) (by omega)
      by_cases c2 : w = 3
      · have y2 : (nI w = nI 3) = True := eq_true (congrArg nI c2)
        refine ⟨115, by omega, by omega, fun Q => ?_⟩
        simp only [k100_74, k100_75, k100_76, k100_78, k100_79, k100_81, k100_84, k100_87, k100_89, k100_92, k100_94, k100_95, k100_98, k100_100, k100_103, k100_105, k100_106, k100_109, k100_111, k100_114, k100_116, k100_118, k100_121, k100_123, k100_126, k100_128, k100_130, k100_133, k100_135, k100_138, k100_140, k100_142, k100_145, k100_147, k100_150, rf_s, pushR_s, pushR_n, le4_0, le4_1, le4_2, le4_3, le4_4, isLong_n, isLong_i, isLong_r, isLong_f, if_true, if_false, not_true_eq_false, not_false_eq_true, isI_0, isI_9, isAr_0, isAr_1, isAr_2, isAr_9, okR_i, okR_0, okR_1, putI_0, putI_b0, putI_b1, nI_10, nI_00, Nat.reduceLT, Nat.reduceLeDiff, nI_add, upM_s, upI_s, pk_mul, nf_at, l17, z, y1, y2]
      · have y2 : ¬ nI w = nI 3 := ne_n (by omega) (by omega) c2
        by_cases c3 : w < 6
        · have y3 : nI w < nI 6 := nI_lt c3 (by omega)
          refine ⟨99, by omega, by omega, fun Q => ?_⟩
          simp only [k100_74, k100_75, k100_76, k100_78, k100_79, k100_81, k100_84, k100_87, k100_89, k100_92, k100_94, k100_95, k100_98, k100_100, k100_103, k100_105, k100_106, k100_109, k100_111, k100_114, k100_116, k100_118, k100_121, k100_123, k100_126, k100_128, k100_130, k100_133, k100_135, k100_138, k100_140, k100_142, k100_145, k100_147, k100_150, rf_s, pushR_s, pushR_n, le4_0, le4_1, le4_2, le4_3, le4_4, isLong_n, isLong_i, isLong_r, isLong_f, if_true, if_false, not_true_eq_false, not_false_eq_true, isI_0, isI_9, isAr_0, isAr_1, isAr_2, isAr_9, okR_i, okR_0, okR_1, putI_0, putI_b0, putI_b1, nI_10, nI_00, Nat.reduceLT, Nat.reduceLeDiff, nI_add, upM_s, upI_s, pk_mul, nf_at, l17, z, y1, y2, y3]
        · have y3 : ¬ nI w < nI 6 := nI_nlt (by omega) (by omega)
          by_cases c4 : w < 8
          · have y4 : nI w < nI 8 := nI_lt c4 (by omega)
            refine ⟨111, by omega, by omega, fun Q => ?_⟩
            simp only [k100_74, k100_75, k100_76, k100_78, k100_79, k100_81, k100_84, k100_87, k100_89, k100_92, k100_94, k100_95, k100_98, k100_100, k100_103, k100_105, k100_106, k100_109, k100_111, k100_114, k100_116, k100_118, k100_121, k100_123, k100_126, k100_128, k100_130, k100_133, k100_135, k100_138, k100_140, k100_142, k100_145, k100_147, k100_150, rf_s, pushR_s, pushR_n, le4_0, le4_1, le4_2, le4_3, le4_4, isLong_n, isLong_i, isLong_r, isLong_f, if_true, if_false, not_true_eq_false, not_false_eq_true, isI_0, isI_9, isAr_0, isAr_1, isAr_2, isAr_9, okR_i, okR_0, okR_1, putI_0, putI_b0, putI_b1, nI_10, nI_00, Nat.reduceLT, Nat.reduceLeDiff, nI_add, upM_s, upI_s, pk_mul, nf_at, l17, z, y1, y2, y3, y4]
          · have y4 : ¬ nI w < nI 8 := nI_nlt (by omega) (by omega)
            by_cases c5 : w = 8
            · have y5 : (nI w = nI 8) = True := eq_true (congrArg nI c5)
              refine ⟨102, by omega, by omega, fun Q => ?_⟩
              simp only [k100_74, k100_75, k100_76, k100_78, k100_79, k100_81, k100_84, k100_87, k100_89, k100_92, k100_94, k100_95, k100_98, k100_100, k100_103, k100_105, k100_106, k100_109, k100_111, k100_114, k100_116, k100_118, k100_121, k100_123, k100_126, k100_128, k100_130, k100_133, k100_135, k100_138, k100_140, k100_142, k100_145, k100_147, k100_150, rf_s, pushR_s, pushR_n, le4_0, le4_1, le4_2, le4_3, le4_4, isLong_n, isLong_i, isLong_r, isLong_f, if_true, if_false, not_true_eq_false, not_false_eq_true, isI_0, isI_9, isAr_0, isAr_1, isAr_2, isAr_9, okR_i, okR_0, okR_1, putI_0, putI_b0, putI_b1, nI_10, nI_00, Nat.reduceLT, Nat.reduceLeDiff, nI_add, upM_s, upI_s, pk_mul, nf_at, l17, z, y1, y2, y3, y4, y5]
            · have y5 : ¬ nI w = nI 8 := ne_n (by omega) (by omega) c5
              refine ⟨108, by omega, by omega, fun Q => ?_⟩
              simp only [k100_74, k100_75, k100_76, k100_78, k100_79, k100_81, k100_84, k100_87, k100_89, k100_92, k100_94, k100_95, k100_98, k100_100, k100_103, k100_105, k100_106, k100_109, k100_111, k100_114, k100_116, k100_118, k100_121, k100_123, k100_126, k100_128, k100_130, k100_133, k100_135, k100_138, k100_140, k100_142, k100_145, k100_147, k100_150, rf_s, pushR_s, pushR_n, le4_0, le4_1, le4_2, le4_3, le4_4, isLong_n, isLong_i, isLong_r, isLong_f, if_true, if_false, not_true_eq_false, not_false_eq_true, isI_0, isI_9, isAr_0, isAr_1, isAr_2, isAr_9, okR_i, okR_0, okR_1, putI_0, putI_b0, putI_b1, nI_10, nI_00, Nat.reduceLT, Nat.reduceLeDiff, nI_add, upM_s, upI_s, pk_mul, nf_at, l17, z, y1, y2, y3, y4, y5]
/-- a number of an order -/
theorem tnu (x y : Int32) {w i : Nat} (hw : w < 12) (hi : i < 3) (l2 l3 l4 l7 l9 : Option Value) (σ : Sg) (M : Mem) : ∃ v, v < 1200 ∧ (w ≠ 3 → v < 22) ∧ ∀ Q, wp 100 174 [some (.ref 0), some (.int x), l2, l3, l4, some (.int y), some (.int (nI w)), l7, some (.int (nI i)), l9] [] σ M Q = wp 100 248 [some (.ref 0), some (.int x), l2, l3, l4, some (.int y), some (.int (nI w)), l7, some (.int (nI i)), some (.int (nI v))] [] σ M Q := by
  by_cases c1 : w = 3
  · have y1 : (nI w = nI 3) = True := eq_true (congrArg nI c1)
    by_cases c2 : i = 1
    · have y2 : (nI i = nI 1) = True := eq_true (congrArg nI c2)
      have l3' := fun Q => l95 (v := y) (m := 3) (by omega) (by omega) (σ := σ) (M := M) Q
      have b3 := lw_lt (v := y) (m := 3) (by omega)
      generalize lw y 3 = q at *
      by_cases c3 : q = 0
      · have z : (nI q = 0) = True := eq_true (by rw [c3]; exact nI_0)
        have e := fun Q => l95 (v := y >>> (nI 3 &&& 31)) (m := 1200) (by omega) (by omega) (σ := σ) (M := M) Q
        have b := lw_lt (v := y >>> (nI 3 &&& 31)) (m := 1200) (by omega)
        refine ⟨lw (y >>> (nI 3 &&& 31)) 1200, by omega, fun h => absurd c1 h, fun Q => ?_⟩
        simp only [k100_174, k100_176, k100_177, k100_180, k100_182, k100_183, k100_186, k100_188, k100_189, k100_190, k100_192, k100_193, k100_196, k100_199, k100_202, k100_205, k100_207, k100_210, k100_213, k100_215, k100_216, k100_218, k100_219, k100_220, k100_222, k100_223, k100_226, k100_228, k100_231, k100_233, k100_234, k100_237, k100_239, k100_242, k100_243, k100_246, rf_s, pushR_s, pushR_n, le4_0, le4_1, le4_2, le4_3, le4_4, isLong_n, isLong_i, isLong_r, isLong_f, if_true, if_false, not_true_eq_false, not_false_eq_true, isI_0, isI_9, isAr_0, isAr_1, isAr_2, isAr_9, okR_i, okR_0, okR_1, putI_0, putI_b0, putI_b1, nI_10, nI_00, Nat.reduceLT, Nat.reduceLeDiff, nI_add, upM_s, upI_s, pk_mul, nf_at, y1, y2, l3', z, e]
      · have z : ¬ nI q = 0 := nI_ne0 (by omega) (by omega)
        have e := fun Q => l95 (v := y >>> (nI 3 &&& 31)) (m := 50) (by omega) (by omega) (σ := σ) (M := M) Q
        have b := lw_lt (v := y >>> (nI 3 &&& 31)) (m := 50) (by omega)
        refine ⟨lw (y >>> (nI 3 &&& 31)) 50, by omega, fun h => absurd c1 h, fun Q => ?_⟩
        simp only [k100_174, k100_176, k100_177, k100_180, k100_182, k100_183, k100_186, k100_188, k100_189, k100_190, k100_192, k100_193, k100_196, k100_199, k100_202, k100_205, k100_207, k100_210, k100_213, k100_215, k100_216, k100_218, k100_219, k100_220, k100_222, k100_223, k100_226, k100_228, k100_231, k100_233, k100_234, k100_237, k100_239, k100_242, k100_243, k100_246, rf_s, pushR_s, pushR_n, le4_0, le4_1, le4_2, le4_3, le4_4, isLong_n, isLong_i, isLong_r, isLong_f, if_true, if_false, not_true_eq_false, not_false_eq_true, isI_0, isI_9, isAr_0, isAr_1, isAr_2, isAr_9, okR_i, okR_0, okR_1, putI_0, putI_b0, putI_b1, nI_10, nI_00, Nat.reduceLT, Nat.reduceLeDiff, nI_add, upM_s, upI_s, pk_mul, nf_at, y1, y2, l3', z, e]
    · have y2 : ¬ nI i = nI 1 := ne_n (by omega) (by omega) c2
      have e := fun Q => l95 (v := y >>> (nI (2 * i) &&& 31)) (m := 8) (by omega) (by omega) (σ := σ) (M := M) Q
      have b := lw_lt (v := y >>> (nI (2 * i) &&& 31)) (m := 8) (by omega)
      refine ⟨lw (y >>> (nI (2 * i) &&& 31)) 8, by omega, fun h => absurd c1 h, fun Q => ?_⟩
      simp only [k100_174, k100_176, k100_177, k100_180, k100_182, k100_183, k100_186, k100_188, k100_189, k100_190, k100_192, k100_193, k100_196, k100_199, k100_202, k100_205, k100_207, k100_210, k100_213, k100_215, k100_216, k100_218, k100_219, k100_220, k100_222, k100_223, k100_226, k100_228, k100_231, k100_233, k100_234, k100_237, k100_239, k100_242, k100_243, k100_246, rf_s, pushR_s, pushR_n, le4_0, le4_1, le4_2, le4_3, le4_4, isLong_n, isLong_i, isLong_r, isLong_f, if_true, if_false, not_true_eq_false, not_false_eq_true, isI_0, isI_9, isAr_0, isAr_1, isAr_2, isAr_9, okR_i, okR_0, okR_1, putI_0, putI_b0, putI_b1, nI_10, nI_00, Nat.reduceLT, Nat.reduceLeDiff, nI_add, upM_s, upI_s, pk_mul, nf_at, y1, y2, e]
  · have y1 : ¬ nI w = nI 3 := ne_n (by omega) (by omega) c1
    by_cases c2 : i = 2
    · have y2 : (nI i = nI 2) = True := eq_true (congrArg nI c2)
      have e := fun Q => l95 (v := y >>> (nI (2 * i) &&& 31)) (m := 22) (by omega) (by omega) (σ := σ) (M := M) Q
      have b := lw_lt (v := y >>> (nI (2 * i) &&& 31)) (m := 22) (by omega)
      refine ⟨lw (y >>> (nI (2 * i) &&& 31)) 22, by omega, fun _ => by omega, fun Q => ?_⟩
      simp only [k100_174, k100_176, k100_177, k100_180, k100_182, k100_183, k100_186, k100_188, k100_189, k100_190, k100_192, k100_193, k100_196, k100_199, k100_202, k100_205, k100_207, k100_210, k100_213, k100_215, k100_216, k100_218, k100_219, k100_220, k100_222, k100_223, k100_226, k100_228, k100_231, k100_233, k100_234, k100_237, k100_239, k100_242, k100_243, k100_246, rf_s, pushR_s, pushR_n, le4_0, le4_1, le4_2, le4_3, le4_4, isLong_n, isLong_i, isLong_r, isLong_f, if_true, if_false, not_true_eq_false, not_false_eq_true, isI_0, isI_9, isAr_0, isAr_1, isAr_2, isAr_9, okR_i, okR_0, okR_1, putI_0, putI_b0, putI_b1, nI_10, nI_00, Nat.reduceLT, Nat.reduceLeDiff, nI_add, upM_s, upI_s, pk_mul, nf_at, y1, y2, e]
    · have y2 : ¬ nI i = nI 2 := ne_n (by omega) (by omega) c2
      have e := fun Q => l95 (v := y >>> (nI (2 * i) &&& 31)) (m := 5) (by omega) (by omega) (σ := σ) (M := M) Q
      have b := lw_lt (v := y >>> (nI (2 * i) &&& 31)) (m := 5) (by omega)
      refine ⟨lw (y >>> (nI (2 * i) &&& 31)) 5, by omega, fun _ => by omega, fun Q => ?_⟩
      simp only [k100_174, k100_176, k100_177, k100_180, k100_182, k100_183, k100_186, k100_188, k100_189, k100_190, k100_192, k100_193, k100_196, k100_199, k100_202, k100_205, k100_207, k100_210, k100_213, k100_215, k100_216, k100_218, k100_219, k100_220, k100_222, k100_223, k100_226, k100_228, k100_231, k100_233, k100_234, k100_237, k100_239, k100_242, k100_243, k100_246, rf_s, pushR_s, pushR_n, le4_0, le4_1, le4_2, le4_3, le4_4, isLong_n, isLong_i, isLong_r, isLong_f, if_true, if_false, not_true_eq_false, not_false_eq_true, isI_0, isI_9, isAr_0, isAr_1, isAr_2, isAr_9, okR_i, okR_0, okR_1, putI_0, putI_b0, putI_b1, nI_10, nI_00, Nat.reduceLT, Nat.reduceLeDiff, nI_add, upM_s, upI_s, pk_mul, nf_at, y1, y2, e]
def mny (w : Nat) : Nat := if w < 3 then 3 else if w = 3 then 2 else 1
def nch (w : Nat) : Nat := if w = 3 then 5 else 3
/-- the numbers of an order -/
theorem tln (x y : Int32) {w : Nat} (hw : w < 12) (l2 l4 : Option Value) (hl : isLong l2 = false) : ∀ (i len : Nat) (T : Nat → Nat) (M : Mem) (l9 : Option Value), i ≤ mny w → Lw L xs σ M s H n len T B → len + i * nch w ≤ 52 → ∃ M' len' T' l9', (∀ Q, wp 100 167 [some (.ref 0), some (.int x), l2, some (.int (nI 1)), l4, some (.int y), some (.int (nI w)), some (.int (nI (mny w))), some (.int (nI (mny w - i))), l9] [] σ M Q = wp 100 304 [some (.ref 0), some (.int x), l2, some (.int (nI 1)), l4, some (.int y), some (.int (nI w)), some (.int (nI (mny w))), some (.int (nI (mny w))), l9'] [] σ M' Q) ∧ Lw L xs σ M' s H n len' T' B ∧ len' ≤ len + i * nch w
  | 0, len, T, M, l9, hi, K, h => by
    have m3 : mny w ≤ 3 := by unfold mny; split <;> (try split) <;> omega
    have lt : ¬ nI (mny w - 0) < nI (mny w) := nI_nlt (by omega) (by omega)
    refine ⟨M, len, T, l9, fun Q => ?_, K, by omega⟩
    rw [k100_167]
    simp only [k100_169, k100_171, rf_s, pushR_s, pushR_n, le4_0, le4_1, le4_2, le4_3, le4_4, isLong_n, isLong_i, isLong_r, isLong_f, if_true, if_false, not_true_eq_false, not_false_eq_true, isI_0, isI_9, isAr_0, isAr_1, isAr_2, isAr_9, okR_i, okR_0, okR_1, putI_0, putI_b0, putI_b1, nI_10, nI_00, Nat.reduceLT, Nat.reduceLeDiff, nI_add, upM_s, upI_s, pk_mul, nf_at, lt]
    rfl
  | i + 1, len, T, M, l9, hi, K, h => by
    have m3 : mny w ≤ 3 := by unfold mny; split <;> (try split) <;> omega
    have lt : nI (mny w - (i + 1)) < nI (mny w) := nI_lt (by omega) (by omega)
    have nc : nch w = 5 ∧ w = 3 ∨ nch w = 3 ∧ w ≠ 3 := by unfold nch; split <;> omega
    have mm : (i + 1) * nch w = i * nch w + nch w := Nat.succ_mul _ _
    obtain ⟨v, v1, v2, a1⟩ := tnu x y hw (i := mny w - (i + 1)) (by omega) l2 (some (.int (nI 1))) l4 (some (.int (nI (mny w)))) l9 σ M
    have t0 := K.t0
    have e2 : mny w - (i + 1) + 1 = mny w - i := by omega
    by_cases c : mny w - (i + 1) = 0
    · have z : (nI (mny w - (i + 1)) = 0) = True := eq_true (by rw [c]; exact nI_0)
      obtain ⟨M1, len1, T1, b1, K1, b2, b3⟩ := l99 K (by omega) (v := v) (by omega)
      obtain ⟨M2, len2, T2, l9', c1, K2, c2⟩ := tln x y hw l2 l4 hl i len1 T1 M1 (some (.int (nI v))) (by omega) K1 (by omega)
      refine ⟨M2, len2, T2, l9', fun Q => ?_, K2, by omega⟩
      refine Eq.trans ?_ (c1 Q)
      rw [k100_167]
      simp only [k100_169, k100_171, rf_s, pushR_s, pushR_n, le4_0, le4_1, le4_2, le4_3, le4_4, isLong_n, isLong_i, isLong_r, isLong_f, if_true, if_false, not_true_eq_false, not_false_eq_true, isI_0, isI_9, isAr_0, isAr_1, isAr_2, isAr_9, okR_i, okR_0, okR_1, putI_0, putI_b0, putI_b1, nI_10, nI_00, Nat.reduceLT, Nat.reduceLeDiff, nI_add, upM_s, upI_s, pk_mul, nf_at, lt, a1]
      simp only [k100_248, k100_249, k100_252, k100_254, k100_257, k100_258, k100_259, k100_261, k100_262, k100_264, k100_267, k100_270, k100_272, k100_275, k100_277, k100_280, k100_283, k100_284, k100_286, k100_289, k100_292, k100_293, k100_296, k100_297, k100_298, k100_301, rf_s, pushR_s, pushR_n, le4_0, le4_1, le4_2, le4_3, le4_4, isLong_n, isLong_i, isLong_r, isLong_f, if_true, if_false, not_true_eq_false, not_false_eq_true, isI_0, isI_9, isAr_0, isAr_1, isAr_2, isAr_9, okR_i, okR_0, okR_1, putI_0, putI_b0, putI_b1, nI_10, nI_00, Nat.reduceLT, Nat.reduceLeDiff, nI_add, upM_s, upI_s, pk_mul, nf_at, hl, t0, z, b1, e2]
    · have z : ¬ nI (mny w - (i + 1)) = 0 := nI_ne0 (by omega) (by omega)
      have l19 := fun Q => l95 (v := x >>> (nI 20 &&& 31)) (m := 19) (by omega) (by omega) (σ := σ) (M := M) Q
      have b19 := lw_lt (v := x >>> (nI 20 &&& 31)) (m := 19) (by omega)
      generalize lw (x >>> (nI 20 &&& 31)) 19 = q at *
      have p1 := pos_n (a := len) (by omega)
      by_cases c0 : q = 0
      · have z0 : (nI q = 0) = True := eq_true (by rw [c0]; exact nI_0)
        obtain ⟨M0, a0, K0⟩ := e20 K (c := 46) (by omega) (by omega) (by omega)
        obtain ⟨M1, len1, T1, b1, K1, b2, b3⟩ := l99 K0 (by omega) (v := v) (by omega)
        obtain ⟨M2, len2, T2, l9', c1, K2, c2⟩ := tln x y hw l2 l4 hl i len1 T1 M1 (some (.int (nI v))) (by omega) K1 (by omega)
        refine ⟨M2, len2, T2, l9', fun Q => ?_, K2, by omega⟩
        refine Eq.trans ?_ (c1 Q)
        rw [k100_167]
        simp only [k100_169, k100_171, rf_s, pushR_s, pushR_n, le4_0, le4_1, le4_2, le4_3, le4_4, isLong_n, isLong_i, isLong_r, isLong_f, if_true, if_false, not_true_eq_false, not_false_eq_true, isI_0, isI_9, isAr_0, isAr_1, isAr_2, isAr_9, okR_i, okR_0, okR_1, putI_0, putI_b0, putI_b1, nI_10, nI_00, Nat.reduceLT, Nat.reduceLeDiff, nI_add, upM_s, upI_s, pk_mul, nf_at, lt, a1]
        simp only [k100_248, k100_249, k100_252, k100_254, k100_257, k100_258, k100_259, k100_261, k100_262, k100_264, k100_267, k100_270, k100_272, k100_275, k100_277, k100_280, k100_283, k100_284, k100_286, k100_289, k100_292, k100_293, k100_296, k100_297, k100_298, k100_301, rf_s, pushR_s, pushR_n, le4_0, le4_1, le4_2, le4_3, le4_4, isLong_n, isLong_i, isLong_r, isLong_f, if_true, if_false, not_true_eq_false, not_false_eq_true, isI_0, isI_9, isAr_0, isAr_1, isAr_2, isAr_9, okR_i, okR_0, okR_1, putI_0, putI_b0, putI_b1, nI_10, nI_00, Nat.reduceLT, Nat.reduceLeDiff, nI_add, upM_s, upI_s, pk_mul, nf_at, hl, t0, z, z0, l19, a0, p1, b1, e2]
      · have z0 : ¬ nI q = 0 := nI_ne0 (by omega) (by omega)
        obtain ⟨M0, a0, K0⟩ := e20 K (c := 44) (by omega) (by omega) (by omega)
        obtain ⟨M1, len1, T1, b1, K1, b2, b3⟩ := l99 K0 (by omega) (v := v) (by omega)
        obtain ⟨M2, len2, T2, l9', c1, K2, c2⟩ := tln x y hw l2 l4 hl i len1 T1 M1 (some (.int (nI v))) (by omega) K1 (by omega)
        refine ⟨M2, len2, T2, l9', fun Q => ?_, K2, by omega⟩
        refine Eq.trans ?_ (c1 Q)
        rw [k100_167]
        simp only [k100_169, k100_171, rf_s, pushR_s, pushR_n, le4_0, le4_1, le4_2, le4_3, le4_4, isLong_n, isLong_i, isLong_r, isLong_f, if_true, if_false, not_true_eq_false, not_false_eq_true, isI_0, isI_9, isAr_0, isAr_1, isAr_2, isAr_9, okR_i, okR_0, okR_1, putI_0, putI_b0, putI_b1, nI_10, nI_00, Nat.reduceLT, Nat.reduceLeDiff, nI_add, upM_s, upI_s, pk_mul, nf_at, lt, a1]
        simp only [k100_248, k100_249, k100_252, k100_254, k100_257, k100_258, k100_259, k100_261, k100_262, k100_264, k100_267, k100_270, k100_272, k100_275, k100_277, k100_280, k100_283, k100_284, k100_286, k100_289, k100_292, k100_293, k100_296, k100_297, k100_298, k100_301, rf_s, pushR_s, pushR_n, le4_0, le4_1, le4_2, le4_3, le4_4, isLong_n, isLong_i, isLong_r, isLong_f, if_true, if_false, not_true_eq_false, not_false_eq_true, isI_0, isI_9, isAr_0, isAr_1, isAr_2, isAr_9, okR_i, okR_0, okR_1, putI_0, putI_b0, putI_b1, nI_10, nI_00, Nat.reduceLT, Nat.reduceLeDiff, nI_add, upM_s, upI_s, pk_mul, nf_at, hl, t0, z, z0, l19, a0, p1, b1, e2]
end TYP
