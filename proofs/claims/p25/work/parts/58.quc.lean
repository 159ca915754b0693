section QUC
variable {σ : Sg} {M : Mem} {I : Nat → Nat} {s s' : Nat → Nat} {H : Nat → Nat → Nat} {n len : Nat} {T : Nat → Nat} {r : Int32}
theorem ClL_fr (L : ClL σ M I s H n len T) {M' : Mem} (f : ∀ o, o < 14 ∨ 26 < o ∧ o < 95 ∨ 102 < o → M' o = M o) (h95 : ∃ V, RW M' 95 V) (h101 : ∃ V, RW M' 101 V) : ClL σ M' I s H n len T := by
  obtain ⟨hk, hh, hc, R, i, ⟨h1, hn⟩, hH, hT, _, _⟩ := L
  refine ⟨hk, hh, IsC_fr hc (f 1001 (by omega)) (f 1002 (by omega)), RG_o R i.1.2.2.2.2.2 (fun o h1 h2 => f o (by omega)), i, ⟨by rw [f 27 (by omega)]; exact h1, hn⟩, fun j hj => ?_, ⟨by rw [f 103 (by omega)]; exact hT.1, fun j hj => by rw [f 104 (by omega)]; exact hT.2 j hj⟩, h95, h101⟩
  obtain ⟨a, b, c⟩ := hH j hj
  have q := ih_g hh j (by omega)
  exact ⟨RG_o a b.2.2.2.2.2 (fun o h1 h2 => f o (by omega)), b, c⟩
/-- what a question leaves of the class -/
def QC (σ : Sg) (M M' : Mem) (I : Nat → Nat) (s : Nat → Nat) (H : Nat → Nat → Nat) (n len : Nat) (T : Nat → Nat) : Prop := ClL σ M' I s H n len T ∧ ∀ o, 106 ≤ o → M' o = M o
theorem QC_r (L : ClL σ M I s H n len T) : QC σ M M I s H n len T := ⟨L, fun _ _ => rfl⟩
theorem best_bit {W : (Nat × Nat × Nat × Nat × (Nat → Nat))} (b : BW s W) (k : Nat) : bit W.2.2.1 k = inb s k := by
  unfold inb
  rcases b with ⟨h, e⟩ | ⟨h, _, _, e, _⟩
  · rw [e, if_pos h]; exact bit_0
  · rw [if_neg h, e]
theorem c9 (L : ClL σ M I s H n len T) {x y : Int32} (o : rPathOf s x y r) (Q : Po) : wp 9 0 [some (.ref 0), some (.int x), some (.int y)] [] σ M Q = Q (some (.int r)) σ M := by
  obtain ⟨hk, hh, hc, R, ⟨i, _⟩, h1, hH, hT, h95, h101⟩ := L
  have hg := hk.2.1
  have g1 := i.1.2.1
  rcases o with ⟨k, hk1, e, h⟩ | ⟨h, e⟩
  · subst e
    have py := fun Q => c39y (Q := Q) hg R i hk1
    have h16 : k < 16 := by omega
    rcases h with ⟨w, hw, e, er⟩ | ⟨h, er⟩
    · subst e er
      have e0 := rg_one R k h16
      have e1 := rg_oth R k h16
      have e2 := rg_len R k h16
      have e3 := rg_trl R k h16
      have e6 := rg_wal R k h16
      have m4 := fun Q => c42 (Q := Q) hg R i hk1
      have m5 := fun Q => c45 (Q := Q) hg R i hk1
      obtain ⟨W, w1, w2⟩ := rg_best R
      have ok := BW_ok i w2
      have m7 := fun Q => c90 (Q := Q) (ig_way hg) w1 ok.2.1 h16
      rw [best_bit w2] at m7
      have hc4 := (i.1.2.2 k hk1).2.2.2.2.2.2.2
      have ib : inb s k = 0 ∨ inb s k = 1 := by
        unfold inb
        split
        · exact Or.inl rfl
        · have := @bit_lt (s 12) k; omega
      rcases (show w = 0 ∨ w = 1 ∨ w = 2 ∨ w = 3 ∨ w = 4 ∨ w = 5 ∨ w = 6 ∨ w = 7 by omega) with c | c | c | c | c | c | c | c <;> subst c
      · simp only [k9_0, k9_1, k9_4, k9_5, k9_8, k9_11, k9_13, k9_14, k9_15, k9_60, k9_61, k9_64, k9_67, k9_68, k9_69, k9_70, k9_71, k9_74, k9_77, k9_78, k9_79, k9_80, k9_81, k9_84, k9_87, k9_88, k9_89, k9_90, k9_91, k9_94, k9_97, k9_98, k9_99, k9_100, k9_101, k9_104, k9_105, k9_108, k9_111, k9_112, k9_115, k9_116, k9_117, k9_118, k9_121, k9_122, k9_125, k9_126, k9_127, k9_130, k9_133, k9_134, k9_135, k9_136, k9_137, k9_140, k9_143, k9_144, k9_147, k9_150, k9_151, k9_154, k9_155, k9_156, k9_158, ia_t hk.1, ia_r0 hk.1, ia_r1 hk.1, ia_r2 hk.1, ia_r3 hk.1, ia_r4 hk.1, ia_r5 hk.1, ig_t0 hg, ig_t1 hg, ig_t2 hg, ig_t3 hg, ig_t4 hg, ig_t5 hg, ig_t6 hg, ig_t7 hg, ig_t8 hg, ig_t9 hg, ig_t10 hg, ig_t11 hg, ig_t12 hg, ig_l1 hg, ig_l2 hg, ig_l3 hg, ig_l4 hg, ig_l5 hg, ig_l6 hg, ig_l7 hg, ig_l8 hg, ig_l9 hg, ig_l10 hg, ig_l12 hg, ig_r1 hg, ig_r2 hg, ig_r4 hg, ig_r5 hg, ig_r6 hg, ig_r7 hg, ig_r8 hg, ig_r9 hg, ig_r12 hg, ig_r14 hg, ig_r15 hg, ig_rw hg, rf_s, pushR_s, pushR_n, le4_0, le4_1, le4_2, le4_3, le4_4, isLong_n, isLong_i, isLong_r, isLong_f, if_true, if_false, not_true_eq_false, not_false_eq_true, isI_0, isI_9, isAr_0, isAr_1, isAr_2, isAr_9, okR_i, okR_0, okR_1, putI_0, putI_b0, putI_b1, nI_10, nI_00, Nat.reduceLT, Nat.reduceLeDiff, nI_add, upM_s, upI_s, pk_mul, nf_at, py, nI_lit, Nat.reduceEqDiff, h16, e0, aPath]
      · simp only [k9_0, k9_1, k9_4, k9_5, k9_8, k9_11, k9_13, k9_14, k9_15, k9_60, k9_61, k9_64, k9_67, k9_68, k9_69, k9_70, k9_71, k9_74, k9_77, k9_78, k9_79, k9_80, k9_81, k9_84, k9_87, k9_88, k9_89, k9_90, k9_91, k9_94, k9_97, k9_98, k9_99, k9_100, k9_101, k9_104, k9_105, k9_108, k9_111, k9_112, k9_115, k9_116, k9_117, k9_118, k9_121, k9_122, k9_125, k9_126, k9_127, k9_130, k9_133, k9_134, k9_135, k9_136, k9_137, k9_140, k9_143, k9_144, k9_147, k9_150, k9_151, k9_154, k9_155, k9_156, k9_158, ia_t hk.1, ia_r0 hk.1, ia_r1 hk.1, ia_r2 hk.1, ia_r3 hk.1, ia_r4 hk.1, ia_r5 hk.1, ig_t0 hg, ig_t1 hg, ig_t2 hg, ig_t3 hg, ig_t4 hg, ig_t5 hg, ig_t6 hg, ig_t7 hg, ig_t8 hg, ig_t9 hg, ig_t10 hg, ig_t11 hg, ig_t12 hg, ig_l1 hg, ig_l2 hg, ig_l3 hg, ig_l4 hg, ig_l5 hg, ig_l6 hg, ig_l7 hg, ig_l8 hg, ig_l9 hg, ig_l10 hg, ig_l12 hg, ig_r1 hg, ig_r2 hg, ig_r4 hg, ig_r5 hg, ig_r6 hg, ig_r7 hg, ig_r8 hg, ig_r9 hg, ig_r12 hg, ig_r14 hg, ig_r15 hg, ig_rw hg, rf_s, pushR_s, pushR_n, le4_0, le4_1, le4_2, le4_3, le4_4, isLong_n, isLong_i, isLong_r, isLong_f, if_true, if_false, not_true_eq_false, not_false_eq_true, isI_0, isI_9, isAr_0, isAr_1, isAr_2, isAr_9, okR_i, okR_0, okR_1, putI_0, putI_b0, putI_b1, nI_10, nI_00, Nat.reduceLT, Nat.reduceLeDiff, nI_add, upM_s, upI_s, pk_mul, nf_at, py, nI_lit, Nat.reduceEqDiff, h16, e1, aPath]
      · simp only [k9_0, k9_1, k9_4, k9_5, k9_8, k9_11, k9_13, k9_14, k9_15, k9_60, k9_61, k9_64, k9_67, k9_68, k9_69, k9_70, k9_71, k9_74, k9_77, k9_78, k9_79, k9_80, k9_81, k9_84, k9_87, k9_88, k9_89, k9_90, k9_91, k9_94, k9_97, k9_98, k9_99, k9_100, k9_101, k9_104, k9_105, k9_108, k9_111, k9_112, k9_115, k9_116, k9_117, k9_118, k9_121, k9_122, k9_125, k9_126, k9_127, k9_130, k9_133, k9_134, k9_135, k9_136, k9_137, k9_140, k9_143, k9_144, k9_147, k9_150, k9_151, k9_154, k9_155, k9_156, k9_158, ia_t hk.1, ia_r0 hk.1, ia_r1 hk.1, ia_r2 hk.1, ia_r3 hk.1, ia_r4 hk.1, ia_r5 hk.1, ig_t0 hg, ig_t1 hg, ig_t2 hg, ig_t3 hg, ig_t4 hg, ig_t5 hg, ig_t6 hg, ig_t7 hg, ig_t8 hg, ig_t9 hg, ig_t10 hg, ig_t11 hg, ig_t12 hg, ig_l1 hg, ig_l2 hg, ig_l3 hg, ig_l4 hg, ig_l5 hg, ig_l6 hg, ig_l7 hg, ig_l8 hg, ig_l9 hg, ig_l10 hg, ig_l12 hg, ig_r1 hg, ig_r2 hg, ig_r4 hg, ig_r5 hg, ig_r6 hg, ig_r7 hg, ig_r8 hg, ig_r9 hg, ig_r12 hg, ig_r14 hg, ig_r15 hg, ig_rw hg, rf_s, pushR_s, pushR_n, le4_0, le4_1, le4_2, le4_3, le4_4, isLong_n, isLong_i, isLong_r, isLong_f, if_true, if_false, not_true_eq_false, not_false_eq_true, isI_0, isI_9, isAr_0, isAr_1, isAr_2, isAr_9, okR_i, okR_0, okR_1, putI_0, putI_b0, putI_b1, nI_10, nI_00, Nat.reduceLT, Nat.reduceLeDiff, nI_add, upM_s, upI_s, pk_mul, nf_at, py, nI_lit, Nat.reduceEqDiff, h16, e2, aPath]
      · simp only [k9_0, k9_1, k9_4, k9_5, k9_8, k9_11, k9_13, k9_14, k9_15, k9_60, k9_61, k9_64, k9_67, k9_68, k9_69, k9_70, k9_71, k9_74, k9_77, k9_78, k9_79, k9_80, k9_81, k9_84, k9_87, k9_88, k9_89, k9_90, k9_91, k9_94, k9_97, k9_98, k9_99, k9_100, k9_101, k9_104, k9_105, k9_108, k9_111, k9_112, k9_115, k9_116, k9_117, k9_118, k9_121, k9_122, k9_125, k9_126, k9_127, k9_130, k9_133, k9_134, k9_135, k9_136, k9_137, k9_140, k9_143, k9_144, k9_147, k9_150, k9_151, k9_154, k9_155, k9_156, k9_158, ia_t hk.1, ia_r0 hk.1, ia_r1 hk.1, ia_r2 hk.1, ia_r3 hk.1, ia_r4 hk.1, ia_r5 hk.1, ig_t0 hg, ig_t1 hg, ig_t2 hg, ig_t3 hg, ig_t4 hg, ig_t5 hg, ig_t6 hg, ig_t7 hg, ig_t8 hg, ig_t9 hg, ig_t10 hg, ig_t11 hg, ig_t12 hg, ig_l1 hg, ig_l2 hg, ig_l3 hg, ig_l4 hg, ig_l5 hg, ig_l6 hg, ig_l7 hg, ig_l8 hg, ig_l9 hg, ig_l10 hg, ig_l12 hg, ig_r1 hg, ig_r2 hg, ig_r4 hg, ig_r5 hg, ig_r6 hg, ig_r7 hg, ig_r8 hg, ig_r9 hg, ig_r12 hg, ig_r14 hg, ig_r15 hg, ig_rw hg, rf_s, pushR_s, pushR_n, le4_0, le4_1, le4_2, le4_3, le4_4, isLong_n, isLong_i, isLong_r, isLong_f, if_true, if_false, not_true_eq_false, not_false_eq_true, isI_0, isI_9, isAr_0, isAr_1, isAr_2, isAr_9, okR_i, okR_0, okR_1, putI_0, putI_b0, putI_b1, nI_10, nI_00, Nat.reduceLT, Nat.reduceLeDiff, nI_add, upM_s, upI_s, pk_mul, nf_at, py, nI_lit, Nat.reduceEqDiff, h16, e3, aPath]
      · rcases (show s (30 + 6 * k + 4) = 0 ∨ s (30 + 6 * k + 4) = 1 by omega) with c | c <;> simp only [k9_0, k9_1, k9_4, k9_5, k9_8, k9_11, k9_13, k9_14, k9_15, k9_60, k9_61, k9_64, k9_67, k9_68, k9_69, k9_70, k9_71, k9_74, k9_77, k9_78, k9_79, k9_80, k9_81, k9_84, k9_87, k9_88, k9_89, k9_90, k9_91, k9_94, k9_97, k9_98, k9_99, k9_100, k9_101, k9_104, k9_105, k9_108, k9_111, k9_112, k9_115, k9_116, k9_117, k9_118, k9_121, k9_122, k9_125, k9_126, k9_127, k9_130, k9_133, k9_134, k9_135, k9_136, k9_137, k9_140, k9_143, k9_144, k9_147, k9_150, k9_151, k9_154, k9_155, k9_156, k9_158, ia_t hk.1, ia_r0 hk.1, ia_r1 hk.1, ia_r2 hk.1, ia_r3 hk.1, ia_r4 hk.1, ia_r5 hk.1, ig_t0 hg, ig_t1 hg, ig_t2 hg, ig_t3 hg, ig_t4 hg, ig_t5 hg, ig_t6 hg, ig_t7 hg, ig_t8 hg, ig_t9 hg, ig_t10 hg, ig_t11 hg, ig_t12 hg, ig_l1 hg, ig_l2 hg, ig_l3 hg, ig_l4 hg, ig_l5 hg, ig_l6 hg, ig_l7 hg, ig_l8 hg, ig_l9 hg, ig_l10 hg, ig_l12 hg, ig_r1 hg, ig_r2 hg, ig_r4 hg, ig_r5 hg, ig_r6 hg, ig_r7 hg, ig_r8 hg, ig_r9 hg, ig_r12 hg, ig_r14 hg, ig_r15 hg, ig_rw hg, rf_s, pushR_s, pushR_n, le4_0, le4_1, le4_2, le4_3, le4_4, isLong_n, isLong_i, isLong_r, isLong_f, if_true, if_false, not_true_eq_false, not_false_eq_true, isI_0, isI_9, isAr_0, isAr_1, isAr_2, isAr_9, okR_i, okR_0, okR_1, putI_0, putI_b0, putI_b1, nI_10, nI_00, Nat.reduceLT, Nat.reduceLeDiff, nI_add, upM_s, upI_s, pk_mul, nf_at, py, nI_lit, Nat.reduceEqDiff, h16, m4, c, aPath]
      · simp only [k9_0, k9_1, k9_4, k9_5, k9_8, k9_11, k9_13, k9_14, k9_15, k9_60, k9_61, k9_64, k9_67, k9_68, k9_69, k9_70, k9_71, k9_74, k9_77, k9_78, k9_79, k9_80, k9_81, k9_84, k9_87, k9_88, k9_89, k9_90, k9_91, k9_94, k9_97, k9_98, k9_99, k9_100, k9_101, k9_104, k9_105, k9_108, k9_111, k9_112, k9_115, k9_116, k9_117, k9_118, k9_121, k9_122, k9_125, k9_126, k9_127, k9_130, k9_133, k9_134, k9_135, k9_136, k9_137, k9_140, k9_143, k9_144, k9_147, k9_150, k9_151, k9_154, k9_155, k9_156, k9_158, ia_t hk.1, ia_r0 hk.1, ia_r1 hk.1, ia_r2 hk.1, ia_r3 hk.1, ia_r4 hk.1, ia_r5 hk.1, ig_t0 hg, ig_t1 hg, ig_t2 hg, ig_t3 hg, ig_t4 hg, ig_t5 hg, ig_t6 hg, ig_t7 hg, ig_t8 hg, ig_t9 hg, ig_t10 hg, ig_t11 hg, ig_t12 hg, ig_l1 hg, ig_l2 hg, ig_l3 hg, ig_l4 hg, ig_l5 hg, ig_l6 hg, ig_l7 hg, ig_l8 hg, ig_l9 hg, ig_l10 hg, ig_l12 hg, ig_r1 hg, ig_r2 hg, ig_r4 hg, ig_r5 hg, ig_r6 hg, ig_r7 hg, ig_r8 hg, ig_r9 hg, ig_r12 hg, ig_r14 hg, ig_r15 hg, ig_rw hg, rf_s, pushR_s, pushR_n, le4_0, le4_1, le4_2, le4_3, le4_4, isLong_n, isLong_i, isLong_r, isLong_f, if_true, if_false, not_true_eq_false, not_false_eq_true, isI_0, isI_9, isAr_0, isAr_1, isAr_2, isAr_9, okR_i, okR_0, okR_1, putI_0, putI_b0, putI_b1, nI_10, nI_00, Nat.reduceLT, Nat.reduceLeDiff, nI_add, upM_s, upI_s, pk_mul, nf_at, py, nI_lit, Nat.reduceEqDiff, m5, aPath]
      · simp only [k9_0, k9_1, k9_4, k9_5, k9_8, k9_11, k9_13, k9_14, k9_15, k9_60, k9_61, k9_64, k9_67, k9_68, k9_69, k9_70, k9_71, k9_74, k9_77, k9_78, k9_79, k9_80, k9_81, k9_84, k9_87, k9_88, k9_89, k9_90, k9_91, k9_94, k9_97, k9_98, k9_99, k9_100, k9_101, k9_104, k9_105, k9_108, k9_111, k9_112, k9_115, k9_116, k9_117, k9_118, k9_121, k9_122, k9_125, k9_126, k9_127, k9_130, k9_133, k9_134, k9_135, k9_136, k9_137, k9_140, k9_143, k9_144, k9_147, k9_150, k9_151, k9_154, k9_155, k9_156, k9_158, ia_t hk.1, ia_r0 hk.1, ia_r1 hk.1, ia_r2 hk.1, ia_r3 hk.1, ia_r4 hk.1, ia_r5 hk.1, ig_t0 hg, ig_t1 hg, ig_t2 hg, ig_t3 hg, ig_t4 hg, ig_t5 hg, ig_t6 hg, ig_t7 hg, ig_t8 hg, ig_t9 hg, ig_t10 hg, ig_t11 hg, ig_t12 hg, ig_l1 hg, ig_l2 hg, ig_l3 hg, ig_l4 hg, ig_l5 hg, ig_l6 hg, ig_l7 hg, ig_l8 hg, ig_l9 hg, ig_l10 hg, ig_l12 hg, ig_r1 hg, ig_r2 hg, ig_r4 hg, ig_r5 hg, ig_r6 hg, ig_r7 hg, ig_r8 hg, ig_r9 hg, ig_r12 hg, ig_r14 hg, ig_r15 hg, ig_rw hg, rf_s, pushR_s, pushR_n, le4_0, le4_1, le4_2, le4_3, le4_4, isLong_n, isLong_i, isLong_r, isLong_f, if_true, if_false, not_true_eq_false, not_false_eq_true, isI_0, isI_9, isAr_0, isAr_1, isAr_2, isAr_9, okR_i, okR_0, okR_1, putI_0, putI_b0, putI_b1, nI_10, nI_00, Nat.reduceLT, Nat.reduceLeDiff, nI_add, upM_s, upI_s, pk_mul, nf_at, py, nI_lit, Nat.reduceEqDiff, h16, e6, aPath]
      · rcases ib with c | c <;> simp only [k9_0, k9_1, k9_4, k9_5, k9_8, k9_11, k9_13, k9_14, k9_15, k9_60, k9_61, k9_64, k9_67, k9_68, k9_69, k9_70, k9_71, k9_74, k9_77, k9_78, k9_79, k9_80, k9_81, k9_84, k9_87, k9_88, k9_89, k9_90, k9_91, k9_94, k9_97, k9_98, k9_99, k9_100, k9_101, k9_104, k9_105, k9_108, k9_111, k9_112, k9_115, k9_116, k9_117, k9_118, k9_121, k9_122, k9_125, k9_126, k9_127, k9_130, k9_133, k9_134, k9_135, k9_136, k9_137, k9_140, k9_143, k9_144, k9_147, k9_150, k9_151, k9_154, k9_155, k9_156, k9_158, ia_t hk.1, ia_r0 hk.1, ia_r1 hk.1, ia_r2 hk.1, ia_r3 hk.1, ia_r4 hk.1, ia_r5 hk.1, ig_t0 hg, ig_t1 hg, ig_t2 hg, ig_t3 hg, ig_t4 hg, ig_t5 hg, ig_t6 hg, ig_t7 hg, ig_t8 hg, ig_t9 hg, ig_t10 hg, ig_t11 hg, ig_t12 hg, ig_l1 hg, ig_l2 hg, ig_l3 hg, ig_l4 hg, ig_l5 hg, ig_l6 hg, ig_l7 hg, ig_l8 hg, ig_l9 hg, ig_l10 hg, ig_l12 hg, ig_r1 hg, ig_r2 hg, ig_r4 hg, ig_r5 hg, ig_r6 hg, ig_r7 hg, ig_r8 hg, ig_r9 hg, ig_r12 hg, ig_r14 hg, ig_r15 hg, ig_rw hg, rf_s, pushR_s, pushR_n, le4_0, le4_1, le4_2, le4_3, le4_4, isLong_n, isLong_i, isLong_r, isLong_f, if_true, if_false, not_true_eq_false, not_false_eq_true, isI_0, isI_9, isAr_0, isAr_1, isAr_2, isAr_9, okR_i, okR_0, okR_1, putI_0, putI_b0, putI_b1, nI_10, nI_00, Nat.reduceLT, Nat.reduceLeDiff, nI_add, upM_s, upI_s, pk_mul, nf_at, py, nI_lit, Nat.reduceEqDiff, m7, c, aPath]
    · subst er
      have n := no8 h
      simp only [k9_0, k9_1, k9_4, k9_5, k9_8, k9_11, k9_13, k9_14, k9_15, k9_60, k9_61, k9_64, k9_67, k9_68, k9_69, k9_70, k9_71, k9_74, k9_77, k9_78, k9_79, k9_80, k9_81, k9_84, k9_87, k9_88, k9_89, k9_90, k9_91, k9_94, k9_97, k9_98, k9_99, k9_100, k9_101, k9_104, k9_105, k9_108, k9_111, k9_112, k9_115, k9_116, k9_117, k9_118, k9_121, k9_122, k9_125, k9_126, k9_127, k9_130, k9_133, k9_134, k9_135, k9_136, k9_137, k9_140, k9_143, k9_144, k9_147, k9_150, k9_151, k9_154, k9_155, k9_156, k9_158, ia_t hk.1, ia_r0 hk.1, ia_r1 hk.1, ia_r2 hk.1, ia_r3 hk.1, ia_r4 hk.1, ia_r5 hk.1, ig_t0 hg, ig_t1 hg, ig_t2 hg, ig_t3 hg, ig_t4 hg, ig_t5 hg, ig_t6 hg, ig_t7 hg, ig_t8 hg, ig_t9 hg, ig_t10 hg, ig_t11 hg, ig_t12 hg, ig_l1 hg, ig_l2 hg, ig_l3 hg, ig_l4 hg, ig_l5 hg, ig_l6 hg, ig_l7 hg, ig_l8 hg, ig_l9 hg, ig_l10 hg, ig_l12 hg, ig_r1 hg, ig_r2 hg, ig_r4 hg, ig_r5 hg, ig_r6 hg, ig_r7 hg, ig_r8 hg, ig_r9 hg, ig_r12 hg, ig_r14 hg, ig_r15 hg, ig_rw hg, rf_s, pushR_s, pushR_n, le4_0, le4_1, le4_2, le4_3, le4_4, isLong_n, isLong_i, isLong_r, isLong_f, if_true, if_false, not_true_eq_false, not_false_eq_true, isI_0, isI_9, isAr_0, isAr_1, isAr_2, isAr_9, okR_i, okR_0, okR_1, putI_0, putI_b0, putI_b1, nI_10, nI_00, Nat.reduceLT, Nat.reduceLeDiff, nI_add, upM_s, upI_s, pk_mul, nf_at, py, n 0 (by omega), n 1 (by omega), n 2 (by omega), n 3 (by omega), n 4 (by omega), n 5 (by omega), n 6 (by omega), n 7 (by omega)]
  · subst e
    have pn := fun Q => c39n (Q := Q) hg R i h
    simp only [k9_0, k9_1, k9_4, k9_5, k9_8, k9_11, k9_13, k9_14, k9_15, k9_60, k9_61, k9_64, k9_67, k9_68, k9_69, k9_70, k9_71, k9_74, k9_77, k9_78, k9_79, k9_80, k9_81, k9_84, k9_87, k9_88, k9_89, k9_90, k9_91, k9_94, k9_97, k9_98, k9_99, k9_100, k9_101, k9_104, k9_105, k9_108, k9_111, k9_112, k9_115, k9_116, k9_117, k9_118, k9_121, k9_122, k9_125, k9_126, k9_127, k9_130, k9_133, k9_134, k9_135, k9_136, k9_137, k9_140, k9_143, k9_144, k9_147, k9_150, k9_151, k9_154, k9_155, k9_156, k9_158, ia_t hk.1, ia_r0 hk.1, ia_r1 hk.1, ia_r2 hk.1, ia_r3 hk.1, ia_r4 hk.1, ia_r5 hk.1, ig_t0 hg, ig_t1 hg, ig_t2 hg, ig_t3 hg, ig_t4 hg, ig_t5 hg, ig_t6 hg, ig_t7 hg, ig_t8 hg, ig_t9 hg, ig_t10 hg, ig_t11 hg, ig_t12 hg, ig_l1 hg, ig_l2 hg, ig_l3 hg, ig_l4 hg, ig_l5 hg, ig_l6 hg, ig_l7 hg, ig_l8 hg, ig_l9 hg, ig_l10 hg, ig_l12 hg, ig_r1 hg, ig_r2 hg, ig_r4 hg, ig_r5 hg, ig_r6 hg, ig_r7 hg, ig_r8 hg, ig_r9 hg, ig_r12 hg, ig_r14 hg, ig_r15 hg, ig_rw hg, rf_s, pushR_s, pushR_n, le4_0, le4_1, le4_2, le4_3, le4_4, isLong_n, isLong_i, isLong_r, isLong_f, if_true, if_false, not_true_eq_false, not_false_eq_true, isI_0, isI_9, isAr_0, isAr_1, isAr_2, isAr_9, okR_i, okR_0, okR_1, putI_0, putI_b0, putI_b1, nI_10, nI_00, Nat.reduceLT, Nat.reduceLeDiff, nI_add, upM_s, upI_s, pk_mul, nf_at, pn]
theorem ob_sp {p : Nat} : ∀ m, ob s p m ≤ 1 ∧ (ob s p m = 1 ↔ s 9 ≠ 0 ∧ ∃ i, i < m ∧ s (20 + i) = p)
  | 0 => ⟨Nat.zero_le _, by
      constructor
      · intro h
        exact absurd h (show ¬ 0 = 1 by decide)
      · rintro ⟨_, i, h, _⟩
        omega⟩
  | m + 1 => by
    obtain ⟨a, b⟩ := ob_sp (p := p) m
    unfold ob
    by_cases c : s 9 ≠ 0 ∧ s (20 + m) = p
    · rw [if_pos c]
      exact ⟨Nat.le_refl _, fun _ => ⟨c.1, m, by omega, c.2⟩, fun _ => rfl⟩
    · rw [if_neg c]
      refine ⟨a, ?_⟩
      rw [b]
      constructor
      · rintro ⟨h, i, h2, h3⟩
        exact ⟨h, i, by omega, h3⟩
      · rintro ⟨h, i, h2, h3⟩
        have : i ≠ m := fun e => c ⟨h, by rw [← e]; exact h3⟩
        exact ⟨h, i, by omega, h3⟩
theorem c10 (L : ClL σ M I s H n len T) {x y : Int32} (o : rPlaceOf s x y r) : ∃ M', (∀ Q, wp 10 0 [some (.ref 0), some (.int x), some (.int y)] [] σ M Q = Q (some (.int r)) σ M') ∧ QC σ M M' I s H n len T := by
  have L0 := L
  obtain ⟨hk, hh, hc, R, ⟨i, _⟩, h1, hH, hT, h95, h101⟩ := L
  have hg := hk.2.1
  have g0 := i.1.1
  rcases o with ⟨p, hp, e, h⟩ | ⟨h, e⟩
  · subst e
    have py := fun Q => c38y (Q := Q) hg R i hp
    have p10 : p < 10 := by omega
    rcases h with ⟨w, hw, e, er⟩ | ⟨h, er⟩
    · subst e er
      have m0 := fun Q => c48 (Q := Q) hg R i p10
      have e1 := rg_came R p p10
      have e2 := rg_stk R p p10
      have m3 := fun Q => c80 (Q := Q) hk.2.2.2.2.1 hg (by omega) R i hp
      have m41 := fun Q => c41 (Q := Q) hg R i
      obtain ⟨W, w1, w2⟩ := rg_best R
      have ok := BW_ok i w2
      have m91 := fun Q => c91 (Q := Q) (ig_way hg) w1 ok.2.2.1 (k := p) (by omega)
      rcases (show w = 0 ∨ w = 1 ∨ w = 2 ∨ w = 3 ∨ w = 4 by omega) with c | c | c | c | c <;> subst c
      · refine ⟨M, fun Q => ?_, QC_r L0⟩
        simp only [k10_0, k10_1, k10_4, k10_5, k10_8, k10_11, k10_13, k10_14, k10_15, k10_48, k10_49, k10_52, k10_53, k10_56, k10_57, k10_58, k10_61, k10_64, k10_65, k10_66, k10_67, k10_68, k10_71, k10_74, k10_75, k10_76, k10_77, k10_78, k10_81, k10_82, k10_85, k10_86, k10_89, k10_90, k10_91, k10_94, k10_97, k10_100, k10_101, k10_104, k10_107, k10_108, k10_111, k10_114, k10_115, k10_118, k10_119, k10_120, k10_122, ia_t hk.1, ia_r0 hk.1, ia_r1 hk.1, ia_r2 hk.1, ia_r3 hk.1, ia_r4 hk.1, ia_r5 hk.1, ig_t0 hg, ig_t1 hg, ig_t2 hg, ig_t3 hg, ig_t4 hg, ig_t5 hg, ig_t6 hg, ig_t7 hg, ig_t8 hg, ig_t9 hg, ig_t10 hg, ig_t11 hg, ig_t12 hg, ig_l1 hg, ig_l2 hg, ig_l3 hg, ig_l4 hg, ig_l5 hg, ig_l6 hg, ig_l7 hg, ig_l8 hg, ig_l9 hg, ig_l10 hg, ig_l12 hg, ig_r1 hg, ig_r2 hg, ig_r4 hg, ig_r5 hg, ig_r6 hg, ig_r7 hg, ig_r8 hg, ig_r9 hg, ig_r12 hg, ig_r14 hg, ig_r15 hg, ig_rw hg, rf_s, pushR_s, pushR_n, le4_0, le4_1, le4_2, le4_3, le4_4, isLong_n, isLong_i, isLong_r, isLong_f, if_true, if_false, not_true_eq_false, not_false_eq_true, isI_0, isI_9, isAr_0, isAr_1, isAr_2, isAr_9, okR_i, okR_0, okR_1, putI_0, putI_b0, putI_b1, nI_10, nI_00, Nat.reduceLT, Nat.reduceLeDiff, nI_add, upM_s, upI_s, pk_mul, nf_at, py, nI_lit, Nat.reduceEqDiff, m0, aPlace]
      · refine ⟨M, fun Q => ?_, QC_r L0⟩
        simp only [k10_0, k10_1, k10_4, k10_5, k10_8, k10_11, k10_13, k10_14, k10_15, k10_48, k10_49, k10_52, k10_53, k10_56, k10_57, k10_58, k10_61, k10_64, k10_65, k10_66, k10_67, k10_68, k10_71, k10_74, k10_75, k10_76, k10_77, k10_78, k10_81, k10_82, k10_85, k10_86, k10_89, k10_90, k10_91, k10_94, k10_97, k10_100, k10_101, k10_104, k10_107, k10_108, k10_111, k10_114, k10_115, k10_118, k10_119, k10_120, k10_122, ia_t hk.1, ia_r0 hk.1, ia_r1 hk.1, ia_r2 hk.1, ia_r3 hk.1, ia_r4 hk.1, ia_r5 hk.1, ig_t0 hg, ig_t1 hg, ig_t2 hg, ig_t3 hg, ig_t4 hg, ig_t5 hg, ig_t6 hg, ig_t7 hg, ig_t8 hg, ig_t9 hg, ig_t10 hg, ig_t11 hg, ig_t12 hg, ig_l1 hg, ig_l2 hg, ig_l3 hg, ig_l4 hg, ig_l5 hg, ig_l6 hg, ig_l7 hg, ig_l8 hg, ig_l9 hg, ig_l10 hg, ig_l12 hg, ig_r1 hg, ig_r2 hg, ig_r4 hg, ig_r5 hg, ig_r6 hg, ig_r7 hg, ig_r8 hg, ig_r9 hg, ig_r12 hg, ig_r14 hg, ig_r15 hg, ig_rw hg, rf_s, pushR_s, pushR_n, le4_0, le4_1, le4_2, le4_3, le4_4, isLong_n, isLong_i, isLong_r, isLong_f, if_true, if_false, not_true_eq_false, not_false_eq_true, isI_0, isI_9, isAr_0, isAr_1, isAr_2, isAr_9, okR_i, okR_0, okR_1, putI_0, putI_b0, putI_b1, nI_10, nI_00, Nat.reduceLT, Nat.reduceLeDiff, nI_add, upM_s, upI_s, pk_mul, nf_at, py, nI_lit, Nat.reduceEqDiff, p10, e1, aPlace]
      · refine ⟨M, fun Q => ?_, QC_r L0⟩
        simp only [k10_0, k10_1, k10_4, k10_5, k10_8, k10_11, k10_13, k10_14, k10_15, k10_48, k10_49, k10_52, k10_53, k10_56, k10_57, k10_58, k10_61, k10_64, k10_65, k10_66, k10_67, k10_68, k10_71, k10_74, k10_75, k10_76, k10_77, k10_78, k10_81, k10_82, k10_85, k10_86, k10_89, k10_90, k10_91, k10_94, k10_97, k10_100, k10_101, k10_104, k10_107, k10_108, k10_111, k10_114, k10_115, k10_118, k10_119, k10_120, k10_122, ia_t hk.1, ia_r0 hk.1, ia_r1 hk.1, ia_r2 hk.1, ia_r3 hk.1, ia_r4 hk.1, ia_r5 hk.1, ig_t0 hg, ig_t1 hg, ig_t2 hg, ig_t3 hg, ig_t4 hg, ig_t5 hg, ig_t6 hg, ig_t7 hg, ig_t8 hg, ig_t9 hg, ig_t10 hg, ig_t11 hg, ig_t12 hg, ig_l1 hg, ig_l2 hg, ig_l3 hg, ig_l4 hg, ig_l5 hg, ig_l6 hg, ig_l7 hg, ig_l8 hg, ig_l9 hg, ig_l10 hg, ig_l12 hg, ig_r1 hg, ig_r2 hg, ig_r4 hg, ig_r5 hg, ig_r6 hg, ig_r7 hg, ig_r8 hg, ig_r9 hg, ig_r12 hg, ig_r14 hg, ig_r15 hg, ig_rw hg, rf_s, pushR_s, pushR_n, le4_0, le4_1, le4_2, le4_3, le4_4, isLong_n, isLong_i, isLong_r, isLong_f, if_true, if_false, not_true_eq_false, not_false_eq_true, isI_0, isI_9, isAr_0, isAr_1, isAr_2, isAr_9, okR_i, okR_0, okR_1, putI_0, putI_b0, putI_b1, nI_10, nI_00, Nat.reduceLT, Nat.reduceLeDiff, nI_add, upM_s, upI_s, pk_mul, nf_at, py, nI_lit, Nat.reduceEqDiff, p10, e2, aPlace]
      · have f : ∀ o, o ≠ 100 → vM M (Hd (Dr s (s 0))) o = M o := fun o h => upM_n h
        obtain ⟨V, v⟩ := h95
        obtain ⟨U, u⟩ := h101
        refine ⟨vM M (Hd (Dr s (s 0))), fun Q => ?_, ClL_fr L0 (fun o ho => f o (by omega)) ⟨V, RW_fr v (f 95 (by decide)) (f 96 (by decide))⟩ ⟨U, RW_fr u (f 101 (by decide)) (f 102 (by decide))⟩, fun o ho => f o (by omega)⟩
        simp only [k10_0, k10_1, k10_4, k10_5, k10_8, k10_11, k10_13, k10_14, k10_15, k10_48, k10_49, k10_52, k10_53, k10_56, k10_57, k10_58, k10_61, k10_64, k10_65, k10_66, k10_67, k10_68, k10_71, k10_74, k10_75, k10_76, k10_77, k10_78, k10_81, k10_82, k10_85, k10_86, k10_89, k10_90, k10_91, k10_94, k10_97, k10_100, k10_101, k10_104, k10_107, k10_108, k10_111, k10_114, k10_115, k10_118, k10_119, k10_120, k10_122, ia_t hk.1, ia_r0 hk.1, ia_r1 hk.1, ia_r2 hk.1, ia_r3 hk.1, ia_r4 hk.1, ia_r5 hk.1, ig_t0 hg, ig_t1 hg, ig_t2 hg, ig_t3 hg, ig_t4 hg, ig_t5 hg, ig_t6 hg, ig_t7 hg, ig_t8 hg, ig_t9 hg, ig_t10 hg, ig_t11 hg, ig_t12 hg, ig_l1 hg, ig_l2 hg, ig_l3 hg, ig_l4 hg, ig_l5 hg, ig_l6 hg, ig_l7 hg, ig_l8 hg, ig_l9 hg, ig_l10 hg, ig_l12 hg, ig_r1 hg, ig_r2 hg, ig_r4 hg, ig_r5 hg, ig_r6 hg, ig_r7 hg, ig_r8 hg, ig_r9 hg, ig_r12 hg, ig_r14 hg, ig_r15 hg, ig_rw hg, iv_t99 hk.2.2.2.2.1, rf_s, pushR_s, pushR_n, le4_0, le4_1, le4_2, le4_3, le4_4, isLong_n, isLong_i, isLong_r, isLong_f, if_true, if_false, not_true_eq_false, not_false_eq_true, isI_0, isI_9, isAr_0, isAr_1, isAr_2, isAr_9, okR_i, okR_0, okR_1, putI_0, putI_b0, putI_b1, nI_10, nI_00, Nat.reduceLT, Nat.reduceLeDiff, nI_add, upM_s, upI_s, pk_mul, nf_at, py, nI_lit, Nat.reduceEqDiff, m3, aPlace]
      · refine ⟨M, fun Q => ?_, QC_r L0⟩
        obtain ⟨o1, o2⟩ := ob_sp (s := s) (p := p) (s 10 + 1)
        by_cases c : s 9 = 0
        · have eo : ob s p (s 10 + 1) = 0 := by
            have : ob s p (s 10 + 1) ≠ 1 := fun e => (o2.1 e).1 c
            omega
          simp only [k10_0, k10_1, k10_4, k10_5, k10_8, k10_11, k10_13, k10_14, k10_15, k10_48, k10_49, k10_52, k10_53, k10_56, k10_57, k10_58, k10_61, k10_64, k10_65, k10_66, k10_67, k10_68, k10_71, k10_74, k10_75, k10_76, k10_77, k10_78, k10_81, k10_82, k10_85, k10_86, k10_89, k10_90, k10_91, k10_94, k10_97, k10_100, k10_101, k10_104, k10_107, k10_108, k10_111, k10_114, k10_115, k10_118, k10_119, k10_120, k10_122, ia_t hk.1, ia_r0 hk.1, ia_r1 hk.1, ia_r2 hk.1, ia_r3 hk.1, ia_r4 hk.1, ia_r5 hk.1, ig_t0 hg, ig_t1 hg, ig_t2 hg, ig_t3 hg, ig_t4 hg, ig_t5 hg, ig_t6 hg, ig_t7 hg, ig_t8 hg, ig_t9 hg, ig_t10 hg, ig_t11 hg, ig_t12 hg, ig_l1 hg, ig_l2 hg, ig_l3 hg, ig_l4 hg, ig_l5 hg, ig_l6 hg, ig_l7 hg, ig_l8 hg, ig_l9 hg, ig_l10 hg, ig_l12 hg, ig_r1 hg, ig_r2 hg, ig_r4 hg, ig_r5 hg, ig_r6 hg, ig_r7 hg, ig_r8 hg, ig_r9 hg, ig_r12 hg, ig_r14 hg, ig_r15 hg, ig_rw hg, rf_s, pushR_s, pushR_n, le4_0, le4_1, le4_2, le4_3, le4_4, isLong_n, isLong_i, isLong_r, isLong_f, if_true, if_false, not_true_eq_false, not_false_eq_true, isI_0, isI_9, isAr_0, isAr_1, isAr_2, isAr_9, okR_i, okR_0, okR_1, putI_0, putI_b0, putI_b1, nI_10, nI_00, Nat.reduceLT, Nat.reduceLeDiff, nI_add, upM_s, upI_s, pk_mul, nf_at, py, nI_lit, Nat.reduceEqDiff, m41, c, eo, aPlace]
        · have eo : ob s p (s 10 + 1) = bit W.2.2.2.1 p := by
            have hb := @bit_lt W.2.2.2.1 p
            rcases w2 with ⟨h, _⟩ | ⟨_, _, _, _, _, _, b6⟩
            · exact absurd h c
            · have b := b6 p p10
              have q : ob s p (s 10 + 1) = 1 ↔ bit W.2.2.2.1 p = 1 := by
                rw [o2, b]
                constructor
                · rintro ⟨_, i, h, e⟩
                  exact ⟨i, by omega, e⟩
                · rintro ⟨i, h, e⟩
                  exact ⟨c, i, by omega, e⟩
              omega
          rw [show aPlace s p 4 = nI (bit W.2.2.2.1 p) from by rw [← eo]; rfl]
          rcases (show bit W.2.2.2.1 p = 0 ∨ bit W.2.2.2.1 p = 1 by have := @bit_lt W.2.2.2.1 p; omega) with d | d <;> simp only [k10_0, k10_1, k10_4, k10_5, k10_8, k10_11, k10_13, k10_14, k10_15, k10_48, k10_49, k10_52, k10_53, k10_56, k10_57, k10_58, k10_61, k10_64, k10_65, k10_66, k10_67, k10_68, k10_71, k10_74, k10_75, k10_76, k10_77, k10_78, k10_81, k10_82, k10_85, k10_86, k10_89, k10_90, k10_91, k10_94, k10_97, k10_100, k10_101, k10_104, k10_107, k10_108, k10_111, k10_114, k10_115, k10_118, k10_119, k10_120, k10_122, ia_t hk.1, ia_r0 hk.1, ia_r1 hk.1, ia_r2 hk.1, ia_r3 hk.1, ia_r4 hk.1, ia_r5 hk.1, ig_t0 hg, ig_t1 hg, ig_t2 hg, ig_t3 hg, ig_t4 hg, ig_t5 hg, ig_t6 hg, ig_t7 hg, ig_t8 hg, ig_t9 hg, ig_t10 hg, ig_t11 hg, ig_t12 hg, ig_l1 hg, ig_l2 hg, ig_l3 hg, ig_l4 hg, ig_l5 hg, ig_l6 hg, ig_l7 hg, ig_l8 hg, ig_l9 hg, ig_l10 hg, ig_l12 hg, ig_r1 hg, ig_r2 hg, ig_r4 hg, ig_r5 hg, ig_r6 hg, ig_r7 hg, ig_r8 hg, ig_r9 hg, ig_r12 hg, ig_r14 hg, ig_r15 hg, ig_rw hg, rf_s, pushR_s, pushR_n, le4_0, le4_1, le4_2, le4_3, le4_4, isLong_n, isLong_i, isLong_r, isLong_f, if_true, if_false, not_true_eq_false, not_false_eq_true, isI_0, isI_9, isAr_0, isAr_1, isAr_2, isAr_9, okR_i, okR_0, okR_1, putI_0, putI_b0, putI_b1, nI_10, nI_00, Nat.reduceLT, Nat.reduceLeDiff, nI_add, upM_s, upI_s, pk_mul, nf_at, py, nI_lit, Nat.reduceEqDiff, m41, c, m91, d]
    · subst er
      refine ⟨M, fun Q => ?_, QC_r L0⟩
      have n : ∀ w, w < 5 → ¬ y = nI w := fun w hw e => h ⟨w, hw, e⟩
      simp only [k10_0, k10_1, k10_4, k10_5, k10_8, k10_11, k10_13, k10_14, k10_15, k10_48, k10_49, k10_52, k10_53, k10_56, k10_57, k10_58, k10_61, k10_64, k10_65, k10_66, k10_67, k10_68, k10_71, k10_74, k10_75, k10_76, k10_77, k10_78, k10_81, k10_82, k10_85, k10_86, k10_89, k10_90, k10_91, k10_94, k10_97, k10_100, k10_101, k10_104, k10_107, k10_108, k10_111, k10_114, k10_115, k10_118, k10_119, k10_120, k10_122, ia_t hk.1, ia_r0 hk.1, ia_r1 hk.1, ia_r2 hk.1, ia_r3 hk.1, ia_r4 hk.1, ia_r5 hk.1, ig_t0 hg, ig_t1 hg, ig_t2 hg, ig_t3 hg, ig_t4 hg, ig_t5 hg, ig_t6 hg, ig_t7 hg, ig_t8 hg, ig_t9 hg, ig_t10 hg, ig_t11 hg, ig_t12 hg, ig_l1 hg, ig_l2 hg, ig_l3 hg, ig_l4 hg, ig_l5 hg, ig_l6 hg, ig_l7 hg, ig_l8 hg, ig_l9 hg, ig_l10 hg, ig_l12 hg, ig_r1 hg, ig_r2 hg, ig_r4 hg, ig_r5 hg, ig_r6 hg, ig_r7 hg, ig_r8 hg, ig_r9 hg, ig_r12 hg, ig_r14 hg, ig_r15 hg, ig_rw hg, rf_s, pushR_s, pushR_n, le4_0, le4_1, le4_2, le4_3, le4_4, isLong_n, isLong_i, isLong_r, isLong_f, if_true, if_false, not_true_eq_false, not_false_eq_true, isI_0, isI_9, isAr_0, isAr_1, isAr_2, isAr_9, okR_i, okR_0, okR_1, putI_0, putI_b0, putI_b1, nI_10, nI_00, Nat.reduceLT, Nat.reduceLeDiff, nI_add, upM_s, upI_s, pk_mul, nf_at, py, n 0 (by omega), n 1 (by omega), n 2 (by omega), n 3 (by omega), n 4 (by omega)]
  · subst e
    refine ⟨M, fun Q => ?_, QC_r L0⟩
    have pn := fun Q => c38n (Q := Q) hg R i h
    simp only [k10_0, k10_1, k10_4, k10_5, k10_8, k10_11, k10_13, k10_14, k10_15, k10_48, k10_49, k10_52, k10_53, k10_56, k10_57, k10_58, k10_61, k10_64, k10_65, k10_66, k10_67, k10_68, k10_71, k10_74, k10_75, k10_76, k10_77, k10_78, k10_81, k10_82, k10_85, k10_86, k10_89, k10_90, k10_91, k10_94, k10_97, k10_100, k10_101, k10_104, k10_107, k10_108, k10_111, k10_114, k10_115, k10_118, k10_119, k10_120, k10_122, ia_t hk.1, ia_r0 hk.1, ia_r1 hk.1, ia_r2 hk.1, ia_r3 hk.1, ia_r4 hk.1, ia_r5 hk.1, ig_t0 hg, ig_t1 hg, ig_t2 hg, ig_t3 hg, ig_t4 hg, ig_t5 hg, ig_t6 hg, ig_t7 hg, ig_t8 hg, ig_t9 hg, ig_t10 hg, ig_t11 hg, ig_t12 hg, ig_l1 hg, ig_l2 hg, ig_l3 hg, ig_l4 hg, ig_l5 hg, ig_l6 hg, ig_l7 hg, ig_l8 hg, ig_l9 hg, ig_l10 hg, ig_l12 hg, ig_r1 hg, ig_r2 hg, ig_r4 hg, ig_r5 hg, ig_r6 hg, ig_r7 hg, ig_r8 hg, ig_r9 hg, ig_r12 hg, ig_r14 hg, ig_r15 hg, ig_rw hg, rf_s, pushR_s, pushR_n, le4_0, le4_1, le4_2, le4_3, le4_4, isLong_n, isLong_i, isLong_r, isLong_f, if_true, if_false, not_true_eq_false, not_false_eq_true, isI_0, isI_9, isAr_0, isAr_1, isAr_2, isAr_9, okR_i, okR_0, okR_1, putI_0, putI_b0, putI_b1, nI_10, nI_00, Nat.reduceLT, Nat.reduceLeDiff, nI_add, upM_s, upI_s, pk_mul, nf_at, pn]
theorem c11 (L : ClL σ M I s H n len T) {x : Int32} (o : rBest s x r) (Q : Po) : wp 11 0 [some (.ref 0), some (.int x)] [] σ M Q = Q (some (.int r)) σ M := by
  obtain ⟨hk, hh, hc, R, ⟨i, _⟩, h1, hH, hT, h95, h101⟩ := L
  have hg := hk.2.1
  have m41 := fun Q => c41 (Q := Q) hg R i
  rcases o with ⟨w, hw, e, h⟩ | ⟨h, e⟩
  · subst e
    have il := inI_w (n := 3) (by omega) hw
    rcases h with ⟨c, er⟩ | ⟨c, er⟩
    · subst er
      simp only [k11_0, k11_1, k11_2, k11_3, k11_6, k11_9, k11_11, k11_12, k11_13, k11_16, k11_19, k11_22, k11_24, k11_25, k11_26, k11_52, k11_53, k11_56, k11_59, k11_62, k11_63, k11_64, k11_67, k11_70, k11_73, k11_74, k11_75, k11_78, k11_81, k11_82, k11_83, k11_86, k11_89, k11_92, ia_t hk.1, ia_r0 hk.1, ia_r1 hk.1, ia_r2 hk.1, ia_r3 hk.1, ia_r4 hk.1, ia_r5 hk.1, ig_t0 hg, ig_t1 hg, ig_t2 hg, ig_t3 hg, ig_t4 hg, ig_t5 hg, ig_t6 hg, ig_t7 hg, ig_t8 hg, ig_t9 hg, ig_t10 hg, ig_t11 hg, ig_t12 hg, ig_l1 hg, ig_l2 hg, ig_l3 hg, ig_l4 hg, ig_l5 hg, ig_l6 hg, ig_l7 hg, ig_l8 hg, ig_l9 hg, ig_l10 hg, ig_l12 hg, ig_r1 hg, ig_r2 hg, ig_r4 hg, ig_r5 hg, ig_r6 hg, ig_r7 hg, ig_r8 hg, ig_r9 hg, ig_r12 hg, ig_r14 hg, ig_r15 hg, ig_rw hg, rf_s, pushR_s, pushR_n, le4_0, le4_1, le4_2, le4_3, le4_4, isLong_n, isLong_i, isLong_r, isLong_f, if_true, if_false, not_true_eq_false, not_false_eq_true, isI_0, isI_9, isAr_0, isAr_1, isAr_2, isAr_9, okR_i, okR_0, okR_1, putI_0, putI_b0, putI_b1, nI_10, nI_00, Nat.reduceLT, Nat.reduceLeDiff, nI_add, upM_s, upI_s, pk_mul, nf_at, c24, il, m41, c]
    · subst er
      obtain ⟨W, w1, w2⟩ := rg_best R
      have bl := rg_bl R c
      rcases w2 with ⟨h, _⟩ | ⟨_, b1, b2, b3, _⟩
      · exact absurd h c
      · have e0 := w1.2.1
        have e1 := w1.1
        have e3 := w1.2.2.1
        rw [b1] at e0
        rw [b2] at e1
        rw [b3] at e3
        have z30 : ¬ nI 3 = nI 0 := by decide
        rcases (show w = 0 ∨ w = 1 ∨ w = 2 ∨ w = 3 by omega) with d | d | d | d <;> subst d <;> simp only [k11_0, k11_1, k11_2, k11_3, k11_6, k11_9, k11_11, k11_12, k11_13, k11_16, k11_19, k11_22, k11_24, k11_25, k11_26, k11_52, k11_53, k11_56, k11_59, k11_62, k11_63, k11_64, k11_67, k11_70, k11_73, k11_74, k11_75, k11_78, k11_81, k11_82, k11_83, k11_86, k11_89, k11_92, ia_t hk.1, ia_r0 hk.1, ia_r1 hk.1, ia_r2 hk.1, ia_r3 hk.1, ia_r4 hk.1, ia_r5 hk.1, ig_t0 hg, ig_t1 hg, ig_t2 hg, ig_t3 hg, ig_t4 hg, ig_t5 hg, ig_t6 hg, ig_t7 hg, ig_t8 hg, ig_t9 hg, ig_t10 hg, ig_t11 hg, ig_t12 hg, ig_l1 hg, ig_l2 hg, ig_l3 hg, ig_l4 hg, ig_l5 hg, ig_l6 hg, ig_l7 hg, ig_l8 hg, ig_l9 hg, ig_l10 hg, ig_l12 hg, ig_r1 hg, ig_r2 hg, ig_r4 hg, ig_r5 hg, ig_r6 hg, ig_r7 hg, ig_r8 hg, ig_r9 hg, ig_r12 hg, ig_r14 hg, ig_r15 hg, ig_rw hg, rf_s, pushR_s, pushR_n, le4_0, le4_1, le4_2, le4_3, le4_4, isLong_n, isLong_i, isLong_r, isLong_f, if_true, if_false, not_true_eq_false, not_false_eq_true, isI_0, isI_9, isAr_0, isAr_1, isAr_2, isAr_9, okR_i, okR_0, okR_1, putI_0, putI_b0, putI_b1, nI_10, nI_00, Nat.reduceLT, Nat.reduceLeDiff, nI_add, upM_s, upI_s, pk_mul, nf_at, c24, il, m41, c, nI_lit, Nat.reduceEqDiff, e0, e1, bl, e3] <;> rfl
  · subst e
    have il := inI_q (n := 3) (by omega) h
    simp only [k11_0, k11_1, k11_2, k11_3, k11_6, k11_9, k11_11, k11_12, k11_13, k11_16, k11_19, k11_22, k11_24, k11_25, k11_26, k11_52, k11_53, k11_56, k11_59, k11_62, k11_63, k11_64, k11_67, k11_70, k11_73, k11_74, k11_75, k11_78, k11_81, k11_82, k11_83, k11_86, k11_89, k11_92, ia_t hk.1, ia_r0 hk.1, ia_r1 hk.1, ia_r2 hk.1, ia_r3 hk.1, ia_r4 hk.1, ia_r5 hk.1, ig_t0 hg, ig_t1 hg, ig_t2 hg, ig_t3 hg, ig_t4 hg, ig_t5 hg, ig_t6 hg, ig_t7 hg, ig_t8 hg, ig_t9 hg, ig_t10 hg, ig_t11 hg, ig_t12 hg, ig_l1 hg, ig_l2 hg, ig_l3 hg, ig_l4 hg, ig_l5 hg, ig_l6 hg, ig_l7 hg, ig_l8 hg, ig_l9 hg, ig_l10 hg, ig_l12 hg, ig_r1 hg, ig_r2 hg, ig_r4 hg, ig_r5 hg, ig_r6 hg, ig_r7 hg, ig_r8 hg, ig_r9 hg, ig_r12 hg, ig_r14 hg, ig_r15 hg, ig_rw hg, rf_s, pushR_s, pushR_n, le4_0, le4_1, le4_2, le4_3, le4_4, isLong_n, isLong_i, isLong_r, isLong_f, if_true, if_false, not_true_eq_false, not_false_eq_true, isI_0, isI_9, isAr_0, isAr_1, isAr_2, isAr_9, okR_i, okR_0, okR_1, putI_0, putI_b0, putI_b1, nI_10, nI_00, Nat.reduceLT, Nat.reduceLeDiff, nI_add, upM_s, upI_s, pk_mul, nf_at, c24, il]
theorem c12 (L : ClL σ M I s H n len T) {x : Int32} (o : rBestAt s x r) (Q : Po) : wp 12 0 [some (.ref 0), some (.int x)] [] σ M Q = Q (some (.int r)) σ M := by
  obtain ⟨hk, hh, hc, R, ⟨i, _⟩, h1, hH, hT, h95, h101⟩ := L
  have hg := hk.2.1
  have m41 := fun Q => c41 (Q := Q) hg R i
  obtain ⟨W, w1, w2⟩ := rg_best R
  rcases o with ⟨h, e⟩ | ⟨h, c, e⟩ | ⟨h, c, h2⟩
  · subst e
    simp only [k12_0, k12_1, k12_4, k12_6, k12_7, k12_8, k12_11, k12_14, k12_17, k12_18, k12_19, k12_22, k12_25, k12_28, k12_31, k12_33, k12_34, k12_35, k12_38, k12_41, k12_42, k12_45, ia_t hk.1, ia_r0 hk.1, ia_r1 hk.1, ia_r2 hk.1, ia_r3 hk.1, ia_r4 hk.1, ia_r5 hk.1, ig_t0 hg, ig_t1 hg, ig_t2 hg, ig_t3 hg, ig_t4 hg, ig_t5 hg, ig_t6 hg, ig_t7 hg, ig_t8 hg, ig_t9 hg, ig_t10 hg, ig_t11 hg, ig_t12 hg, ig_l1 hg, ig_l2 hg, ig_l3 hg, ig_l4 hg, ig_l5 hg, ig_l6 hg, ig_l7 hg, ig_l8 hg, ig_l9 hg, ig_l10 hg, ig_l12 hg, ig_r1 hg, ig_r2 hg, ig_r4 hg, ig_r5 hg, ig_r6 hg, ig_r7 hg, ig_r8 hg, ig_r9 hg, ig_r12 hg, ig_r14 hg, ig_r15 hg, ig_rw hg, rf_s, pushR_s, pushR_n, le4_0, le4_1, le4_2, le4_3, le4_4, isLong_n, isLong_i, isLong_r, isLong_f, if_true, if_false, not_true_eq_false, not_false_eq_true, isI_0, isI_9, isAr_0, isAr_1, isAr_2, isAr_9, okR_i, okR_0, okR_1, putI_0, putI_b0, putI_b1, nI_10, nI_00, Nat.reduceLT, Nat.reduceLeDiff, nI_add, upM_s, upI_s, pk_mul, nf_at, h]
  · subst e
    simp only [k12_0, k12_1, k12_4, k12_6, k12_7, k12_8, k12_11, k12_14, k12_17, k12_18, k12_19, k12_22, k12_25, k12_28, k12_31, k12_33, k12_34, k12_35, k12_38, k12_41, k12_42, k12_45, ia_t hk.1, ia_r0 hk.1, ia_r1 hk.1, ia_r2 hk.1, ia_r3 hk.1, ia_r4 hk.1, ia_r5 hk.1, ig_t0 hg, ig_t1 hg, ig_t2 hg, ig_t3 hg, ig_t4 hg, ig_t5 hg, ig_t6 hg, ig_t7 hg, ig_t8 hg, ig_t9 hg, ig_t10 hg, ig_t11 hg, ig_t12 hg, ig_l1 hg, ig_l2 hg, ig_l3 hg, ig_l4 hg, ig_l5 hg, ig_l6 hg, ig_l7 hg, ig_l8 hg, ig_l9 hg, ig_l10 hg, ig_l12 hg, ig_r1 hg, ig_r2 hg, ig_r4 hg, ig_r5 hg, ig_r6 hg, ig_r7 hg, ig_r8 hg, ig_r9 hg, ig_r12 hg, ig_r14 hg, ig_r15 hg, ig_rw hg, rf_s, pushR_s, pushR_n, le4_0, le4_1, le4_2, le4_3, le4_4, isLong_n, isLong_i, isLong_r, isLong_f, if_true, if_false, not_true_eq_false, not_false_eq_true, isI_0, isI_9, isAr_0, isAr_1, isAr_2, isAr_9, okR_i, okR_0, okR_1, putI_0, putI_b0, putI_b1, nI_10, nI_00, Nat.reduceLT, Nat.reduceLeDiff, nI_add, upM_s, upI_s, pk_mul, nf_at, h, m41, c]
  · obtain ⟨q1, q2, q3, q4, q5, q6, q7⟩ := i.2.2.2.2.1 c
    rcases w2 with ⟨h, _⟩ | ⟨_, b1, b2, b3, b4, b5, b6⟩
    · exact absurd h c
    · have e1 := w1.1
      rw [b2] at e1
      rcases h2 with ⟨k, hk1, e, er⟩ | ⟨h2, er⟩
      · subst e er
        have z : ¬ nI (s 10) < nI k := nI_nlt (by omega) (by omega)
        have m88 := fun Q => c88 (M := M) (Q := Q) (ig_way hg) (i := k) (by omega)
        have e2 := w1.2.2.2.2.2 k (by omega)
        rw [b5 k hk1] at e2
        simp only [k12_0, k12_1, k12_4, k12_6, k12_7, k12_8, k12_11, k12_14, k12_17, k12_18, k12_19, k12_22, k12_25, k12_28, k12_31, k12_33, k12_34, k12_35, k12_38, k12_41, k12_42, k12_45, ia_t hk.1, ia_r0 hk.1, ia_r1 hk.1, ia_r2 hk.1, ia_r3 hk.1, ia_r4 hk.1, ia_r5 hk.1, ig_t0 hg, ig_t1 hg, ig_t2 hg, ig_t3 hg, ig_t4 hg, ig_t5 hg, ig_t6 hg, ig_t7 hg, ig_t8 hg, ig_t9 hg, ig_t10 hg, ig_t11 hg, ig_t12 hg, ig_l1 hg, ig_l2 hg, ig_l3 hg, ig_l4 hg, ig_l5 hg, ig_l6 hg, ig_l7 hg, ig_l8 hg, ig_l9 hg, ig_l10 hg, ig_l12 hg, ig_r1 hg, ig_r2 hg, ig_r4 hg, ig_r5 hg, ig_r6 hg, ig_r7 hg, ig_r8 hg, ig_r9 hg, ig_r12 hg, ig_r14 hg, ig_r15 hg, ig_rw hg, rf_s, pushR_s, pushR_n, le4_0, le4_1, le4_2, le4_3, le4_4, isLong_n, isLong_i, isLong_r, isLong_f, if_true, if_false, not_true_eq_false, not_false_eq_true, isI_0, isI_9, isAr_0, isAr_1, isAr_2, isAr_9, okR_i, okR_0, okR_1, putI_0, putI_b0, putI_b1, nI_10, nI_00, Nat.reduceLT, Nat.reduceLeDiff, nI_add, upM_s, upI_s, pk_mul, nf_at, h, m41, c, e1, z, m88, e2]
      · subst er
        simp only [k12_0, k12_1, k12_4, k12_6, k12_7, k12_8, k12_11, k12_14, k12_17, k12_18, k12_19, k12_22, k12_25, k12_28, k12_31, k12_33, k12_34, k12_35, k12_38, k12_41, k12_42, k12_45, ia_t hk.1, ia_r0 hk.1, ia_r1 hk.1, ia_r2 hk.1, ia_r3 hk.1, ia_r4 hk.1, ia_r5 hk.1, ig_t0 hg, ig_t1 hg, ig_t2 hg, ig_t3 hg, ig_t4 hg, ig_t5 hg, ig_t6 hg, ig_t7 hg, ig_t8 hg, ig_t9 hg, ig_t10 hg, ig_t11 hg, ig_t12 hg, ig_l1 hg, ig_l2 hg, ig_l3 hg, ig_l4 hg, ig_l5 hg, ig_l6 hg, ig_l7 hg, ig_l8 hg, ig_l9 hg, ig_l10 hg, ig_l12 hg, ig_r1 hg, ig_r2 hg, ig_r4 hg, ig_r5 hg, ig_r6 hg, ig_r7 hg, ig_r8 hg, ig_r9 hg, ig_r12 hg, ig_r14 hg, ig_r15 hg, ig_rw hg, rf_s, pushR_s, pushR_n, le4_0, le4_1, le4_2, le4_3, le4_4, isLong_n, isLong_i, isLong_r, isLong_f, if_true, if_false, not_true_eq_false, not_false_eq_true, isI_0, isI_9, isAr_0, isAr_1, isAr_2, isAr_9, okR_i, okR_0, okR_1, putI_0, putI_b0, putI_b1, nI_10, nI_00, Nat.reduceLT, Nat.reduceLeDiff, nI_add, upM_s, upI_s, pk_mul, nf_at, h, m41, c, e1, h2]
theorem c13 (L : ClL σ M I s H n len T) {x y : Int32} (o : rChance s x y r) (Q : Po) : wp 13 0 [some (.ref 0), some (.int x), some (.int y), none] [] σ M Q = Q (some (.int r)) σ M := by
  obtain ⟨hk, hh, hc, R, ⟨i, _⟩, h1, hH, hT, h95, h101⟩ := L
  have hg := hk.2.1
  have g0 := i.1.1
  have py := fun {p} (h : p < s 0) Q => c38y (Q := Q) hg R i h
  have pn := fun {v} (h : ¬ ∃ p, p < s 0 ∧ v = nI p) Q => c38n (Q := Q) hg R i h
  have ky := fun {p} (h : p < s 1) Q => c39y (Q := Q) hg R i h
  have kn := fun {v} (h : ¬ ∃ p, p < s 1 ∧ v = nI p) Q => c39n (Q := Q) hg R i h
  rcases o with ⟨p, k, hp, e1, hk1, e2, h⟩ | ⟨h, e⟩
  · subst e1 e2
    have m49 := fun Q => c49 (Q := Q) hg R i (p := p) (by omega)
    have m46 := fun Q => c46 (Q := Q) hg R i hk1 (p := p) (by omega)
    have al := acr_le (p := p) i hk1
    rcases h with ⟨c, er⟩ | ⟨c, E, t, ⟨q1, q2, q3, q4⟩, er⟩
    · subst er
      simp only [k13_0, k13_1, k13_4, k13_5, k13_8, k13_11, k13_12, k13_15, k13_16, k13_19, k13_22, k13_24, k13_25, k13_26, k13_29, k13_30, k13_33, k13_34, k13_35, k13_38, k13_39, k13_40, k13_43, k13_44, k13_47, k13_48, k13_49, k13_52, k13_54, k13_55, k13_56, k13_59, k13_60, k13_63, k13_64, k13_65, k13_66, k13_67, k13_70, ia_t hk.1, ia_r0 hk.1, ia_r1 hk.1, ia_r2 hk.1, ia_r3 hk.1, ia_r4 hk.1, ia_r5 hk.1, ig_t0 hg, ig_t1 hg, ig_t2 hg, ig_t3 hg, ig_t4 hg, ig_t5 hg, ig_t6 hg, ig_t7 hg, ig_t8 hg, ig_t9 hg, ig_t10 hg, ig_t11 hg, ig_t12 hg, ig_l1 hg, ig_l2 hg, ig_l3 hg, ig_l4 hg, ig_l5 hg, ig_l6 hg, ig_l7 hg, ig_l8 hg, ig_l9 hg, ig_l10 hg, ig_l12 hg, ig_r1 hg, ig_r2 hg, ig_r4 hg, ig_r5 hg, ig_r6 hg, ig_r7 hg, ig_r8 hg, ig_r9 hg, ig_r12 hg, ig_r14 hg, ig_r15 hg, ig_rw hg, rf_s, pushR_s, pushR_n, le4_0, le4_1, le4_2, le4_3, le4_4, isLong_n, isLong_i, isLong_r, isLong_f, if_true, if_false, not_true_eq_false, not_false_eq_true, isI_0, isI_9, isAr_0, isAr_1, isAr_2, isAr_9, okR_i, okR_0, okR_1, putI_0, putI_b0, putI_b1, nI_10, nI_00, Nat.reduceLT, Nat.reduceLeDiff, nI_add, upM_s, upI_s, pk_mul, nf_at, py hp, ky hk1, m49, m46, c, eI_10]
    · subst er
      have z := eI_ne al c
      have hc2 : ow s p k = wt s k := if_neg c
      have h3 := sumTo_ge (f := ow s p) hk1
      have h5 := wt_le (i.1.2.2 k hk1)
      have h4 := ow_sum (p := p) i.1 (Nat.le_refl (s 1))
      have z1 : ¬ nI (sumTo (ow s p) (s 1)) < nI 1 := nI_nlt (by omega) (by omega)
      have m45 := fun Q => c45 (Q := Q) hg R i hk1
      have nn := nn_fU (E := E) (t := t) (by omega) q4
      have m28 := fun Q => b28 (σ := σ) (M := M) (Q := Q) q2 q3 q4
      simp only [k13_0, k13_1, k13_4, k13_5, k13_8, k13_11, k13_12, k13_15, k13_16, k13_19, k13_22, k13_24, k13_25, k13_26, k13_29, k13_30, k13_33, k13_34, k13_35, k13_38, k13_39, k13_40, k13_43, k13_44, k13_47, k13_48, k13_49, k13_52, k13_54, k13_55, k13_56, k13_59, k13_60, k13_63, k13_64, k13_65, k13_66, k13_67, k13_70, ia_t hk.1, ia_r0 hk.1, ia_r1 hk.1, ia_r2 hk.1, ia_r3 hk.1, ia_r4 hk.1, ia_r5 hk.1, ig_t0 hg, ig_t1 hg, ig_t2 hg, ig_t3 hg, ig_t4 hg, ig_t5 hg, ig_t6 hg, ig_t7 hg, ig_t8 hg, ig_t9 hg, ig_t10 hg, ig_t11 hg, ig_t12 hg, ig_l1 hg, ig_l2 hg, ig_l3 hg, ig_l4 hg, ig_l5 hg, ig_l6 hg, ig_l7 hg, ig_l8 hg, ig_l9 hg, ig_l10 hg, ig_l12 hg, ig_r1 hg, ig_r2 hg, ig_r4 hg, ig_r5 hg, ig_r6 hg, ig_r7 hg, ig_r8 hg, ig_r9 hg, ig_r12 hg, ig_r14 hg, ig_r15 hg, ig_rw hg, rf_s, pushR_s, pushR_n, le4_0, le4_1, le4_2, le4_3, le4_4, isLong_n, isLong_i, isLong_r, isLong_f, if_true, if_false, not_true_eq_false, not_false_eq_true, isI_0, isI_9, isAr_0, isAr_1, isAr_2, isAr_9, okR_i, okR_0, okR_1, putI_0, putI_b0, putI_b1, nI_10, nI_00, Nat.reduceLT, Nat.reduceLeDiff, nI_add, upM_s, upI_s, pk_mul, nf_at, py hp, ky hk1, m49, m46, z, z1, m45, q1, nn, m28]
  · subst e
    rcases h with h | ⟨⟨p, hp, e⟩, h⟩
    · simp only [k13_0, k13_1, k13_4, k13_5, k13_8, k13_11, k13_12, k13_15, k13_16, k13_19, k13_22, k13_24, k13_25, k13_26, k13_29, k13_30, k13_33, k13_34, k13_35, k13_38, k13_39, k13_40, k13_43, k13_44, k13_47, k13_48, k13_49, k13_52, k13_54, k13_55, k13_56, k13_59, k13_60, k13_63, k13_64, k13_65, k13_66, k13_67, k13_70, ia_t hk.1, ia_r0 hk.1, ia_r1 hk.1, ia_r2 hk.1, ia_r3 hk.1, ia_r4 hk.1, ia_r5 hk.1, ig_t0 hg, ig_t1 hg, ig_t2 hg, ig_t3 hg, ig_t4 hg, ig_t5 hg, ig_t6 hg, ig_t7 hg, ig_t8 hg, ig_t9 hg, ig_t10 hg, ig_t11 hg, ig_t12 hg, ig_l1 hg, ig_l2 hg, ig_l3 hg, ig_l4 hg, ig_l5 hg, ig_l6 hg, ig_l7 hg, ig_l8 hg, ig_l9 hg, ig_l10 hg, ig_l12 hg, ig_r1 hg, ig_r2 hg, ig_r4 hg, ig_r5 hg, ig_r6 hg, ig_r7 hg, ig_r8 hg, ig_r9 hg, ig_r12 hg, ig_r14 hg, ig_r15 hg, ig_rw hg, rf_s, pushR_s, pushR_n, le4_0, le4_1, le4_2, le4_3, le4_4, isLong_n, isLong_i, isLong_r, isLong_f, if_true, if_false, not_true_eq_false, not_false_eq_true, isI_0, isI_9, isAr_0, isAr_1, isAr_2, isAr_9, okR_i, okR_0, okR_1, putI_0, putI_b0, putI_b1, nI_10, nI_00, Nat.reduceLT, Nat.reduceLeDiff, nI_add, upM_s, upI_s, pk_mul, nf_at, pn h]
    · subst e
      simp only [k13_0, k13_1, k13_4, k13_5, k13_8, k13_11, k13_12, k13_15, k13_16, k13_19, k13_22, k13_24, k13_25, k13_26, k13_29, k13_30, k13_33, k13_34, k13_35, k13_38, k13_39, k13_40, k13_43, k13_44, k13_47, k13_48, k13_49, k13_52, k13_54, k13_55, k13_56, k13_59, k13_60, k13_63, k13_64, k13_65, k13_66, k13_67, k13_70, ia_t hk.1, ia_r0 hk.1, ia_r1 hk.1, ia_r2 hk.1, ia_r3 hk.1, ia_r4 hk.1, ia_r5 hk.1, ig_t0 hg, ig_t1 hg, ig_t2 hg, ig_t3 hg, ig_t4 hg, ig_t5 hg, ig_t6 hg, ig_t7 hg, ig_t8 hg, ig_t9 hg, ig_t10 hg, ig_t11 hg, ig_t12 hg, ig_l1 hg, ig_l2 hg, ig_l3 hg, ig_l4 hg, ig_l5 hg, ig_l6 hg, ig_l7 hg, ig_l8 hg, ig_l9 hg, ig_l10 hg, ig_l12 hg, ig_r1 hg, ig_r2 hg, ig_r4 hg, ig_r5 hg, ig_r6 hg, ig_r7 hg, ig_r8 hg, ig_r9 hg, ig_r12 hg, ig_r14 hg, ig_r15 hg, ig_rw hg, rf_s, pushR_s, pushR_n, le4_0, le4_1, le4_2, le4_3, le4_4, isLong_n, isLong_i, isLong_r, isLong_f, if_true, if_false, not_true_eq_false, not_false_eq_true, isI_0, isI_9, isAr_0, isAr_1, isAr_2, isAr_9, okR_i, okR_0, okR_1, putI_0, putI_b0, putI_b1, nI_10, nI_00, Nat.reduceLT, Nat.reduceLeDiff, nI_add, upM_s, upI_s, pk_mul, nf_at, py hp, kn h]
end QUC
