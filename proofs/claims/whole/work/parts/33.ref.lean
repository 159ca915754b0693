/-! the same state, as far as it is kept -/
def e146 (s t : Nat → Nat) : Prop := ∀ j, j < 146 → t j = s j
theorem Inv_e {s t : Nat → Nat} (lo : e146 s t) (i : Inv s) : Inv t := by
  obtain ⟨⟨g0, g1, g2⟩, i2, i3, i4, i5⟩ := i
  refine ⟨⟨by rw [lo 0 (by omega)]; exact g0, by rw [lo 1 (by omega)]; exact g1, fun q hq => ?_⟩, ?_, ?_, by rw [lo 8 (by omega)]; exact i4, ?_⟩
  · rw [lo 1 (by omega)] at hq
    have h := g2 q hq
    unfold pOk at h ⊢
    rw [lo 0 (by omega), lo (30 + 6 * q + 0) (by omega), lo (30 + 6 * q + 1) (by omega), lo (30 + 6 * q + 2) (by omega), lo (30 + 6 * q + 3) (by omega), lo (30 + 6 * q + 4) (by omega)]
    exact h
  · unfold sOk at i2 ⊢
    rw [lo 13 (by omega), lo 14 (by omega), lo 15 (by omega), lo 16 (by omega), lo 17 (by omega), lo 18 (by omega), lo 19 (by omega)]
    exact i2
  · unfold fOk at i3 ⊢
    rw [lo 7 (by omega), lo 0 (by omega)]
    exact i3
  · unfold bOk at i5 ⊢
    rw [lo 7 (by omega), lo 0 (by omega), lo 9 (by omega), lo 10 (by omega), lo 12 (by omega), lo 20 (by omega)]
    refine ⟨fun h9 => ?_, i5.2⟩
    obtain ⟨q1, q2, q3, q4, q5, q6, q7⟩ := i5.1 h9
    exact ⟨q1, q2, q3, q4, q5, q6, fun i hi => by rw [lo (20 + i) (by omega)]; exact q7 i hi⟩
/-! the reference's answers that change nothing -/
def inb (s : Nat → Nat) (k : Nat) : Nat := if s 9 = 0 then 0 else bit (s 12) k
theorem m133 {σ : Sg} {M : Mem} (hm : IsM σ) {s : Nat → Nat} (hs : M 107 = nf s) (i : Inv s) {k : Nat} (hk : k < 16) (Q : Po) : wp 133 0 [some (.ref 106), some (.int (nI k))] [] σ M Q = Q (some (.int (nI (inb s k)))) σ M := by
  by_cases c : s 9 = 0
  · have z : nI 0 ≤ 0 := by decide
    have z2 : ¬ 0 < nI 0 := by decide
    simp only [k133_0, k133_1, k133_4, k133_6, k133_7, k133_10, k133_11, k133_14, k133_16, k133_17, k133_18, k133_19, k133_20, k133_21, k133_24, k133_25, im_t106 hm, im_t107 hm, im_t108 hm, im_t109 hm, im_t110 hm, im_t111 hm, im_t112 hm, im_t113 hm, im_t114 hm, im_t115 hm, im_t116 hm, im_l107 hm, im_l108 hm, im_l109 hm, im_l110 hm, im_l111 hm, im_l112 hm, im_l113 hm, im_l114 hm, im_l115 hm, im_l116 hm, im_r0 hm, im_r1 hm, im_r2 hm, im_r3 hm, im_r5 hm, im_r7 hm, im_r14 hm, im_r15 hm, im_r16 hm, im_r22 hm, rf_s, pushR_s, pushR_n, le4_0, le4_1, le4_2, le4_3, le4_4, isLong_n, isLong_i, isLong_r, isLong_f, if_true, if_false, not_true_eq_false, not_false_eq_true, isI_0, isI_9, isAr_0, isAr_1, isAr_2, isAr_9, okR_i, okR_0, okR_1, putI_0, putI_b0, putI_b1, nI_10, nI_00, Nat.reduceLT, Nat.reduceLeDiff, nI_add, upM_s, upI_s, pk_mul, nf_at, hs, c, z, z2, inb]
  · obtain ⟨q1, q2, q3, q4, q5, q6, q7⟩ := i.2.2.2.2.1 c
    have z : ¬ nI (s 9) ≤ 0 := nI_nle (by omega) (by omega)
    have z2 : 0 < nI (s 9) := by rw [← nI_0]; exact nI_lt (by omega) (by omega)
    have hb := shr_bit (b := s 12) (t := k) (by omega) (by omega)
    simp only [k133_0, k133_1, k133_4, k133_6, k133_7, k133_10, k133_11, k133_14, k133_16, k133_17, k133_18, k133_19, k133_20, k133_21, k133_24, k133_25, im_t106 hm, im_t107 hm, im_t108 hm, im_t109 hm, im_t110 hm, im_t111 hm, im_t112 hm, im_t113 hm, im_t114 hm, im_t115 hm, im_t116 hm, im_l107 hm, im_l108 hm, im_l109 hm, im_l110 hm, im_l111 hm, im_l112 hm, im_l113 hm, im_l114 hm, im_l115 hm, im_l116 hm, im_r0 hm, im_r1 hm, im_r2 hm, im_r3 hm, im_r5 hm, im_r7 hm, im_r14 hm, im_r15 hm, im_r16 hm, im_r22 hm, rf_s, pushR_s, pushR_n, le4_0, le4_1, le4_2, le4_3, le4_4, isLong_n, isLong_i, isLong_r, isLong_f, if_true, if_false, not_true_eq_false, not_false_eq_true, isI_0, isI_9, isAr_0, isAr_1, isAr_2, isAr_9, okR_i, okR_0, okR_1, putI_0, putI_b0, putI_b1, nI_10, nI_00, Nat.reduceLT, Nat.reduceLeDiff, nI_add, upM_s, upI_s, pk_mul, nf_at, hs, c, z, z2, inb, hb]
def aPath (s : Nat → Nat) (k w : Nat) : Nat := if w < 5 then s (30 + 6 * k + w) else if w = 5 then wt s k else if w = 6 then s (30 + 6 * k + 5) else inb s k
def rPathOf (s : Nat → Nat) (x y r : Int32) : Prop := (∃ k, k < s 1 ∧ x = nI k ∧ ((∃ w, w < 8 ∧ y = nI w ∧ r = nI (aPath s k w)) ∨ (¬ ∃ w, w < 8 ∧ y = nI w) ∧ r = -1000000001)) ∨ (¬ ∃ k, k < s 1 ∧ x = nI k) ∧ r = -1000000001
theorem rPathOf_ex {s : Nat → Nat} (x y : Int32) : ∃ r, rPathOf s x y r := by
  by_cases h : ∃ k, k < s 1 ∧ x = nI k
  · obtain ⟨k, hk, e⟩ := h
    by_cases h2 : ∃ w, w < 8 ∧ y = nI w
    · obtain ⟨w, hw, e2⟩ := h2
      exact ⟨_, Or.inl ⟨k, hk, e, Or.inl ⟨w, hw, e2, rfl⟩⟩⟩
    · exact ⟨_, Or.inl ⟨k, hk, e, Or.inr ⟨h2, rfl⟩⟩⟩
  · exact ⟨_, Or.inr ⟨h, rfl⟩⟩
theorem no8 {y : Int32} (h : ¬ ∃ w, w < 8 ∧ y = nI w) : ∀ w, w < 8 → ¬ y = nI w := fun w hw e => h ⟨w, hw, e⟩
theorem m134 {σ : Sg} {M : Mem} (hm : IsM σ) {s : Nat → Nat} (hs : M 107 = nf s) (i : Inv s) {x y r : Int32} (o : rPathOf s x y r) (Q : Po) : wp 134 0 [some (.ref 106), some (.int x), some (.int y)] [] σ M Q = Q (some (.int r)) σ M := by
  have g1 := i.1.2.1
  rcases o with ⟨k, hk, e, h⟩ | ⟨h, e⟩
  · subst e
    have py := fun Q => m101y (Q := Q) hm hs (by omega) hk
    rcases h with ⟨w, hw, e, er⟩ | ⟨h, er⟩
    · subst e er
      have m := fun w (h : w < 6) Q => m102 (M := M) (Q := Q) hm (k := k) (w := w) (by omega) h
      have m5 := fun Q => m106 (Q := Q) hm hs (k := k) (by omega) (i.1.2.2 k hk)
      have m7 := fun Q => m133 (Q := Q) hm hs i (k := k) (by omega)
      rcases (show w = 0 ∨ w = 1 ∨ w = 2 ∨ w = 3 ∨ w = 4 ∨ w = 5 ∨ w = 6 ∨ w = 7 by omega) with c | c | c | c | c | c | c | c <;> subst c <;> simp only [k134_0, k134_1, k134_2, k134_5, k134_8, k134_10, k134_11, k134_12, k134_60, k134_61, k134_62, k134_63, k134_66, k134_67, k134_68, k134_69, k134_72, k134_73, k134_74, k134_75, k134_76, k134_79, k134_80, k134_81, k134_82, k134_85, k134_86, k134_88, im_t106 hm, im_t107 hm, im_t108 hm, im_t109 hm, im_t110 hm, im_t111 hm, im_t112 hm, im_t113 hm, im_t114 hm, im_t115 hm, im_t116 hm, im_l107 hm, im_l108 hm, im_l109 hm, im_l110 hm, im_l111 hm, im_l112 hm, im_l113 hm, im_l114 hm, im_l115 hm, im_l116 hm, im_r0 hm, im_r1 hm, im_r2 hm, im_r3 hm, im_r5 hm, im_r7 hm, im_r14 hm, im_r15 hm, im_r16 hm, im_r22 hm, rf_s, pushR_s, pushR_n, le4_0, le4_1, le4_2, le4_3, le4_4, isLong_n, isLong_i, isLong_r, isLong_f, if_true, if_false, not_true_eq_false, not_false_eq_true, isI_0, isI_9, isAr_0, isAr_1, isAr_2, isAr_9, okR_i, okR_0, okR_1, putI_0, putI_b0, putI_b1, nI_10, nI_00, Nat.reduceLT, Nat.reduceLeDiff, nI_add, upM_s, upI_s, pk_mul, nf_at, py, nI_lit, Nat.reduceEqDiff, m 0 (by omega), m 1 (by omega), m 2 (by omega), m 3 (by omega), m 4 (by omega), m 5 (by omega), m5, m7, hs, aPath]
    · subst er
      have n := no8 h
      simp only [k134_0, k134_1, k134_2, k134_5, k134_8, k134_10, k134_11, k134_12, k134_60, k134_61, k134_62, k134_63, k134_66, k134_67, k134_68, k134_69, k134_72, k134_73, k134_74, k134_75, k134_76, k134_79, k134_80, k134_81, k134_82, k134_85, k134_86, k134_88, im_t106 hm, im_t107 hm, im_t108 hm, im_t109 hm, im_t110 hm, im_t111 hm, im_t112 hm, im_t113 hm, im_t114 hm, im_t115 hm, im_t116 hm, im_l107 hm, im_l108 hm, im_l109 hm, im_l110 hm, im_l111 hm, im_l112 hm, im_l113 hm, im_l114 hm, im_l115 hm, im_l116 hm, im_r0 hm, im_r1 hm, im_r2 hm, im_r3 hm, im_r5 hm, im_r7 hm, im_r14 hm, im_r15 hm, im_r16 hm, im_r22 hm, rf_s, pushR_s, pushR_n, le4_0, le4_1, le4_2, le4_3, le4_4, isLong_n, isLong_i, isLong_r, isLong_f, if_true, if_false, not_true_eq_false, not_false_eq_true, isI_0, isI_9, isAr_0, isAr_1, isAr_2, isAr_9, okR_i, okR_0, okR_1, putI_0, putI_b0, putI_b1, nI_10, nI_00, Nat.reduceLT, Nat.reduceLeDiff, nI_add, upM_s, upI_s, pk_mul, nf_at, py, n 0 (by omega), n 1 (by omega), n 2 (by omega), n 3 (by omega), n 4 (by omega), n 5 (by omega), n 6 (by omega), n 7 (by omega)]
  · subst e
    have pn := fun Q => m101n (Q := Q) hm hs (by omega) h
    simp only [k134_0, k134_1, k134_2, k134_5, k134_8, k134_10, k134_11, k134_12, k134_60, k134_61, k134_62, k134_63, k134_66, k134_67, k134_68, k134_69, k134_72, k134_73, k134_74, k134_75, k134_76, k134_79, k134_80, k134_81, k134_82, k134_85, k134_86, k134_88, im_t106 hm, im_t107 hm, im_t108 hm, im_t109 hm, im_t110 hm, im_t111 hm, im_t112 hm, im_t113 hm, im_t114 hm, im_t115 hm, im_t116 hm, im_l107 hm, im_l108 hm, im_l109 hm, im_l110 hm, im_l111 hm, im_l112 hm, im_l113 hm, im_l114 hm, im_l115 hm, im_l116 hm, im_r0 hm, im_r1 hm, im_r2 hm, im_r3 hm, im_r5 hm, im_r7 hm, im_r14 hm, im_r15 hm, im_r16 hm, im_r22 hm, rf_s, pushR_s, pushR_n, le4_0, le4_1, le4_2, le4_3, le4_4, isLong_n, isLong_i, isLong_r, isLong_f, if_true, if_false, not_true_eq_false, not_false_eq_true, isI_0, isI_9, isAr_0, isAr_1, isAr_2, isAr_9, okR_i, okR_0, okR_1, putI_0, putI_b0, putI_b1, nI_10, nI_00, Nat.reduceLT, Nat.reduceLeDiff, nI_add, upM_s, upI_s, pk_mul, nf_at, pn]
def ob (s : Nat → Nat) (p : Nat) : Nat → Nat
  | 0 => 0
  | n + 1 => if s 9 ≠ 0 ∧ s (20 + n) = p then 1 else ob s p n
theorem m135 {σ : Sg} {M : Mem} (hm : IsM σ) {s : Nat → Nat} (hs : M 107 = nf s) (i : Inv s) {p : Nat} (hp : p < 10) (Q : Po) : wp 135 0 [some (.ref 106), some (.int (nI p)), none, none] [] σ M Q = Q (some (.int (nI (ob s p (s 10 + 1))))) σ M := by
  have h10 := i.2.2.2.2.2
  simp only [k135_0, k135_1, k135_2, k135_3, rf_s, pushR_s, pushR_n, le4_0, le4_1, le4_2, le4_3, le4_4, isLong_n, isLong_i, isLong_r, isLong_f, if_true, if_false, not_true_eq_false, not_false_eq_true, isI_0, isI_9, isAr_0, isAr_1, isAr_2, isAr_9, okR_i, okR_0, okR_1, putI_0, putI_b0, putI_b1, nI_10, nI_00, Nat.reduceLT, Nat.reduceLeDiff, nI_add, upM_s, upI_s, pk_mul, nf_at]
  refine (wp_up (n := s 10 + 1) (fun k => [some (.ref 106), some (.int (nI p)), some (.int (nI (ob s p k))), some (.int (nI k))]) (fun _ => M) Q (fun k hk => ?_)).trans ?_
  · have e : ¬ nI (s 10) < nI k := nI_nlt (by omega) (by omega)
    have e' : nI k ≤ nI (s 10) := nI_le (by omega) (by omega)
    have hi : 20 + k < 146 := by omega
    rw [k135_4]
    by_cases c : s 9 = 0
    · have z : nI 0 ≤ 0 := by decide
      have z2 : ¬ 0 < nI 0 := by decide
      have eo : ob s p (k + 1) = ob s p k := by
        show (if s 9 ≠ 0 ∧ s (20 + k) = p then 1 else ob s p k) = _
        rw [if_neg (fun h => h.1 c)]
      simp only [k135_0, k135_1, k135_2, k135_3, k135_5, k135_6, k135_9, k135_11, k135_12, k135_15, k135_16, k135_19, k135_21, k135_22, k135_25, k135_26, k135_29, k135_31, k135_32, k135_33, k135_34, k135_35, k135_38, k135_39, k135_42, k135_43, k135_44, k135_47, k135_50, k135_51, im_t106 hm, im_t107 hm, im_t108 hm, im_t109 hm, im_t110 hm, im_t111 hm, im_t112 hm, im_t113 hm, im_t114 hm, im_t115 hm, im_t116 hm, im_l107 hm, im_l108 hm, im_l109 hm, im_l110 hm, im_l111 hm, im_l112 hm, im_l113 hm, im_l114 hm, im_l115 hm, im_l116 hm, im_r0 hm, im_r1 hm, im_r2 hm, im_r3 hm, im_r5 hm, im_r7 hm, im_r14 hm, im_r15 hm, im_r16 hm, im_r22 hm, rf_s, pushR_s, pushR_n, le4_0, le4_1, le4_2, le4_3, le4_4, isLong_n, isLong_i, isLong_r, isLong_f, if_true, if_false, not_true_eq_false, not_false_eq_true, isI_0, isI_9, isAr_0, isAr_1, isAr_2, isAr_9, okR_i, okR_0, okR_1, putI_0, putI_b0, putI_b1, nI_10, nI_00, Nat.reduceLT, Nat.reduceLeDiff, nI_add, upM_s, upI_s, pk_mul, nf_at, hs, e, e', c, z, z2, eo]
    · obtain ⟨q1, q2, q3, q4, q5, q6, q7⟩ := i.2.2.2.2.1 c
      have z : ¬ nI (s 9) ≤ 0 := nI_nle (by omega) (by omega)
      have z2 : 0 < nI (s 9) := by rw [← nI_0]; exact nI_lt (by omega) (by omega)
      have hq := q7 k (by omega)
      have g0 := i.1.1
      by_cases c2 : s (20 + k) = p
      · have eo : ob s p (k + 1) = 1 := by
          show (if s 9 ≠ 0 ∧ s (20 + k) = p then 1 else ob s p k) = _
          rw [if_pos ⟨c, c2⟩]
        simp only [k135_0, k135_1, k135_2, k135_3, k135_5, k135_6, k135_9, k135_11, k135_12, k135_15, k135_16, k135_19, k135_21, k135_22, k135_25, k135_26, k135_29, k135_31, k135_32, k135_33, k135_34, k135_35, k135_38, k135_39, k135_42, k135_43, k135_44, k135_47, k135_50, k135_51, im_t106 hm, im_t107 hm, im_t108 hm, im_t109 hm, im_t110 hm, im_t111 hm, im_t112 hm, im_t113 hm, im_t114 hm, im_t115 hm, im_t116 hm, im_l107 hm, im_l108 hm, im_l109 hm, im_l110 hm, im_l111 hm, im_l112 hm, im_l113 hm, im_l114 hm, im_l115 hm, im_l116 hm, im_r0 hm, im_r1 hm, im_r2 hm, im_r3 hm, im_r5 hm, im_r7 hm, im_r14 hm, im_r15 hm, im_r16 hm, im_r22 hm, rf_s, pushR_s, pushR_n, le4_0, le4_1, le4_2, le4_3, le4_4, isLong_n, isLong_i, isLong_r, isLong_f, if_true, if_false, not_true_eq_false, not_false_eq_true, isI_0, isI_9, isAr_0, isAr_1, isAr_2, isAr_9, okR_i, okR_0, okR_1, putI_0, putI_b0, putI_b1, nI_10, nI_00, Nat.reduceLT, Nat.reduceLeDiff, nI_add, upM_s, upI_s, pk_mul, nf_at, hs, e, e', z, z2, hi, c2, eo]
      · have eo : ob s p (k + 1) = ob s p k := by
          show (if s 9 ≠ 0 ∧ s (20 + k) = p then 1 else ob s p k) = _
          rw [if_neg (fun h => c2 h.2)]
        have n2 : ¬ nI (s (20 + k)) = nI p := ne_n (by omega) (by omega) c2
        simp only [k135_0, k135_1, k135_2, k135_3, k135_5, k135_6, k135_9, k135_11, k135_12, k135_15, k135_16, k135_19, k135_21, k135_22, k135_25, k135_26, k135_29, k135_31, k135_32, k135_33, k135_34, k135_35, k135_38, k135_39, k135_42, k135_43, k135_44, k135_47, k135_50, k135_51, im_t106 hm, im_t107 hm, im_t108 hm, im_t109 hm, im_t110 hm, im_t111 hm, im_t112 hm, im_t113 hm, im_t114 hm, im_t115 hm, im_t116 hm, im_l107 hm, im_l108 hm, im_l109 hm, im_l110 hm, im_l111 hm, im_l112 hm, im_l113 hm, im_l114 hm, im_l115 hm, im_l116 hm, im_r0 hm, im_r1 hm, im_r2 hm, im_r3 hm, im_r5 hm, im_r7 hm, im_r14 hm, im_r15 hm, im_r16 hm, im_r22 hm, rf_s, pushR_s, pushR_n, le4_0, le4_1, le4_2, le4_3, le4_4, isLong_n, isLong_i, isLong_r, isLong_f, if_true, if_false, not_true_eq_false, not_false_eq_true, isI_0, isI_9, isAr_0, isAr_1, isAr_2, isAr_9, okR_i, okR_0, okR_1, putI_0, putI_b0, putI_b1, nI_10, nI_00, Nat.reduceLT, Nat.reduceLeDiff, nI_add, upM_s, upI_s, pk_mul, nf_at, hs, e, e', z, z2, hi, n2, eo]
  · have e : nI (s 10) < nI (s 10 + 1) := nI_lt (by omega) (by omega)
    have e' : ¬ nI (s 10 + 1) ≤ nI (s 10) := nI_ge (by omega) (by omega)
    rw [k135_4]
    simp only [k135_0, k135_1, k135_2, k135_3, k135_5, k135_6, k135_9, k135_11, k135_12, k135_15, k135_16, k135_19, k135_21, k135_22, k135_25, k135_26, k135_29, k135_31, k135_32, k135_33, k135_34, k135_35, k135_38, k135_39, k135_42, k135_43, k135_44, k135_47, k135_50, k135_51, im_t106 hm, im_t107 hm, im_t108 hm, im_t109 hm, im_t110 hm, im_t111 hm, im_t112 hm, im_t113 hm, im_t114 hm, im_t115 hm, im_t116 hm, im_l107 hm, im_l108 hm, im_l109 hm, im_l110 hm, im_l111 hm, im_l112 hm, im_l113 hm, im_l114 hm, im_l115 hm, im_l116 hm, im_r0 hm, im_r1 hm, im_r2 hm, im_r3 hm, im_r5 hm, im_r7 hm, im_r14 hm, im_r15 hm, im_r16 hm, im_r22 hm, rf_s, pushR_s, pushR_n, le4_0, le4_1, le4_2, le4_3, le4_4, isLong_n, isLong_i, isLong_r, isLong_f, if_true, if_false, not_true_eq_false, not_false_eq_true, isI_0, isI_9, isAr_0, isAr_1, isAr_2, isAr_9, okR_i, okR_0, okR_1, putI_0, putI_b0, putI_b1, nI_10, nI_00, Nat.reduceLT, Nat.reduceLeDiff, nI_add, upM_s, upI_s, pk_mul, nf_at, hs, e, e']
def aPlace (s : Nat → Nat) (p w : Nat) : Int32 := if w = 0 then nI (sumTo (opa s p) (s 1)) else if w = 1 then nI (s (126 + 2 * p + 0)) else if w = 2 then nI (s (126 + 2 * p + 1)) else if w = 3 then dist s p else nI (ob s p (s 10 + 1))
def rPlaceOf (s : Nat → Nat) (x y r : Int32) : Prop := (∃ p, p < s 0 ∧ x = nI p ∧ ((∃ w, w < 5 ∧ y = nI w ∧ r = aPlace s p w) ∨ (¬ ∃ w, w < 5 ∧ y = nI w) ∧ r = -1000000001)) ∨ (¬ ∃ p, p < s 0 ∧ x = nI p) ∧ r = -1000000001
theorem rPlaceOf_ex {s : Nat → Nat} (x y : Int32) : ∃ r, rPlaceOf s x y r := by
  by_cases h : ∃ k, k < s 0 ∧ x = nI k
  · obtain ⟨k, hk, e⟩ := h
    by_cases h2 : ∃ w, w < 5 ∧ y = nI w
    · obtain ⟨w, hw, e2⟩ := h2
      exact ⟨_, Or.inl ⟨k, hk, e, Or.inl ⟨w, hw, e2, rfl⟩⟩⟩
    · exact ⟨_, Or.inl ⟨k, hk, e, Or.inr ⟨h2, rfl⟩⟩⟩
  · exact ⟨_, Or.inr ⟨h, rfl⟩⟩
/-- what a question leaves: a state that is the same as far as it is kept -/
def RQ (M M' : Mem) (s : Nat → Nat) : Prop := (∃ s', e146 s s' ∧ M' 107 = nf s') ∧ (∀ o, o < 106 ∨ o = 110 ∨ o = 111 ∨ 116 < o → M' o = M o) ∧ M' 106 4 = M 106 4 ∧ M' 106 6 = M 106 6
theorem RQ_r {M : Mem} {s : Nat → Nat} (hs : M 107 = nf s) : RQ M M s := ⟨⟨s, fun _ _ => rfl, hs⟩, fun _ _ => rfl, rfl, rfl⟩
theorem RQ_a {M : Mem} {s d : Nat → Nat} (hs : M 107 = nf s) : RQ M (aM M d) s := ⟨⟨s, fun _ _ => rfl, by unfold aM; rw [upM_n (by decide)]; exact hs⟩, fun o h => by unfold aM; exact upM_n (by omega), rfl, rfl⟩
theorem m136 {σ : Sg} {M : Mem} (hm : IsM σ) {s : Nat → Nat} (hs : M 107 = nf s) (i : Inv s) {x y r : Int32} (o : rPlaceOf s x y r) : ∃ M', (∀ Q, wp 136 0 [some (.ref 106), some (.int x), some (.int y)] [] σ M Q = Q (some (.int r)) σ M') ∧ RQ M M' s := by
  have g0 := i.1.1
  rcases o with ⟨p, hp, e, h⟩ | ⟨h, e⟩
  · subst e
    have py := fun Q => m100y (Q := Q) hm hs (by omega) hp
    rcases h with ⟨w, hw, e, er⟩ | ⟨h, er⟩
    · subst e er
      have m0 := fun Q => m108 (Q := Q) hm hs i.1 (p := p) (by omega)
      have m3 := fun Q => m110 (Q := Q) hm hs i.1 (p := p) (by omega)
      have m4 := fun Q => m135 (Q := Q) hm hs i (p := p) (by omega)
      have h1 : 126 + 2 * p + 0 < 146 := by omega
      have h2 : 126 + 2 * p + 1 < 146 := by omega
      by_cases c3 : w = 3
      · subst c3
        refine ⟨aM M (Dr s (s 0)), fun Q => ?_, RQ_a hs⟩
        simp only [k136_0, k136_1, k136_2, k136_5, k136_8, k136_10, k136_11, k136_12, k136_48, k136_49, k136_50, k136_53, k136_54, k136_55, k136_58, k136_60, k136_61, k136_62, k136_63, k136_64, k136_65, k136_66, k136_67, k136_68, k136_69, k136_70, k136_71, k136_72, k136_75, k136_76, k136_77, k136_78, k136_81, k136_82, k136_84, im_t106 hm, im_t107 hm, im_t108 hm, im_t109 hm, im_t110 hm, im_t111 hm, im_t112 hm, im_t113 hm, im_t114 hm, im_t115 hm, im_t116 hm, im_l107 hm, im_l108 hm, im_l109 hm, im_l110 hm, im_l111 hm, im_l112 hm, im_l113 hm, im_l114 hm, im_l115 hm, im_l116 hm, im_r0 hm, im_r1 hm, im_r2 hm, im_r3 hm, im_r5 hm, im_r7 hm, im_r14 hm, im_r15 hm, im_r16 hm, im_r22 hm, rf_s, pushR_s, pushR_n, le4_0, le4_1, le4_2, le4_3, le4_4, isLong_n, isLong_i, isLong_r, isLong_f, if_true, if_false, not_true_eq_false, not_false_eq_true, isI_0, isI_9, isAr_0, isAr_1, isAr_2, isAr_9, okR_i, okR_0, okR_1, putI_0, putI_b0, putI_b1, nI_10, nI_00, Nat.reduceLT, Nat.reduceLeDiff, nI_add, upM_s, upI_s, pk_mul, nf_at, py, nI_lit, Nat.reduceEqDiff, m3, aPlace]
      · refine ⟨M, fun Q => ?_, RQ_r hs⟩
        have s1 : nI (126 + 2 * p + 1) - nI 1 = nI (126 + 2 * p + 0) := pk_sub (by omega)
        have s2 : nI (126 + 2 * p + 2) - nI 1 = nI (126 + 2 * p + 1) := pk_sub (by omega)
        rcases (show w = 0 ∨ w = 1 ∨ w = 2 ∨ w = 4 by omega) with c | c | c | c <;> subst c <;> simp only [k136_0, k136_1, k136_2, k136_5, k136_8, k136_10, k136_11, k136_12, k136_48, k136_49, k136_50, k136_53, k136_54, k136_55, k136_58, k136_60, k136_61, k136_62, k136_63, k136_64, k136_65, k136_66, k136_67, k136_68, k136_69, k136_70, k136_71, k136_72, k136_75, k136_76, k136_77, k136_78, k136_81, k136_82, k136_84, im_t106 hm, im_t107 hm, im_t108 hm, im_t109 hm, im_t110 hm, im_t111 hm, im_t112 hm, im_t113 hm, im_t114 hm, im_t115 hm, im_t116 hm, im_l107 hm, im_l108 hm, im_l109 hm, im_l110 hm, im_l111 hm, im_l112 hm, im_l113 hm, im_l114 hm, im_l115 hm, im_l116 hm, im_r0 hm, im_r1 hm, im_r2 hm, im_r3 hm, im_r5 hm, im_r7 hm, im_r14 hm, im_r15 hm, im_r16 hm, im_r22 hm, rf_s, pushR_s, pushR_n, le4_0, le4_1, le4_2, le4_3, le4_4, isLong_n, isLong_i, isLong_r, isLong_f, if_true, if_false, not_true_eq_false, not_false_eq_true, isI_0, isI_9, isAr_0, isAr_1, isAr_2, isAr_9, okR_i, okR_0, okR_1, putI_0, putI_b0, putI_b1, nI_10, nI_00, Nat.reduceLT, Nat.reduceLeDiff, nI_add, upM_s, upI_s, pk_mul, nf_at, py, nI_lit, Nat.reduceEqDiff, m0, m4, hs, aPlace, s1, s2, h1, h2]
    · subst er
      refine ⟨M, fun Q => ?_, RQ_r hs⟩
      have n : ∀ w, w < 5 → ¬ y = nI w := fun w hw e => h ⟨w, hw, e⟩
      simp only [k136_0, k136_1, k136_2, k136_5, k136_8, k136_10, k136_11, k136_12, k136_48, k136_49, k136_50, k136_53, k136_54, k136_55, k136_58, k136_60, k136_61, k136_62, k136_63, k136_64, k136_65, k136_66, k136_67, k136_68, k136_69, k136_70, k136_71, k136_72, k136_75, k136_76, k136_77, k136_78, k136_81, k136_82, k136_84, im_t106 hm, im_t107 hm, im_t108 hm, im_t109 hm, im_t110 hm, im_t111 hm, im_t112 hm, im_t113 hm, im_t114 hm, im_t115 hm, im_t116 hm, im_l107 hm, im_l108 hm, im_l109 hm, im_l110 hm, im_l111 hm, im_l112 hm, im_l113 hm, im_l114 hm, im_l115 hm, im_l116 hm, im_r0 hm, im_r1 hm, im_r2 hm, im_r3 hm, im_r5 hm, im_r7 hm, im_r14 hm, im_r15 hm, im_r16 hm, im_r22 hm, rf_s, pushR_s, pushR_n, le4_0, le4_1, le4_2, le4_3, le4_4, isLong_n, isLong_i, isLong_r, isLong_f, if_true, if_false, not_true_eq_false, not_false_eq_true, isI_0, isI_9, isAr_0, isAr_1, isAr_2, isAr_9, okR_i, okR_0, okR_1, putI_0, putI_b0, putI_b1, nI_10, nI_00, Nat.reduceLT, Nat.reduceLeDiff, nI_add, upM_s, upI_s, pk_mul, nf_at, py, n 0 (by omega), n 1 (by omega), n 2 (by omega), n 3 (by omega), n 4 (by omega)]
  · subst e
    refine ⟨M, fun Q => ?_, RQ_r hs⟩
    have pn := fun Q => m100n (Q := Q) hm hs (by omega) h
    simp only [k136_0, k136_1, k136_2, k136_5, k136_8, k136_10, k136_11, k136_12, k136_48, k136_49, k136_50, k136_53, k136_54, k136_55, k136_58, k136_60, k136_61, k136_62, k136_63, k136_64, k136_65, k136_66, k136_67, k136_68, k136_69, k136_70, k136_71, k136_72, k136_75, k136_76, k136_77, k136_78, k136_81, k136_82, k136_84, im_t106 hm, im_t107 hm, im_t108 hm, im_t109 hm, im_t110 hm, im_t111 hm, im_t112 hm, im_t113 hm, im_t114 hm, im_t115 hm, im_t116 hm, im_l107 hm, im_l108 hm, im_l109 hm, im_l110 hm, im_l111 hm, im_l112 hm, im_l113 hm, im_l114 hm, im_l115 hm, im_l116 hm, im_r0 hm, im_r1 hm, im_r2 hm, im_r3 hm, im_r5 hm, im_r7 hm, im_r14 hm, im_r15 hm, im_r16 hm, im_r22 hm, rf_s, pushR_s, pushR_n, le4_0, le4_1, le4_2, le4_3, le4_4, isLong_n, isLong_i, isLong_r, isLong_f, if_true, if_false, not_true_eq_false, not_false_eq_true, isI_0, isI_9, isAr_0, isAr_1, isAr_2, isAr_9, okR_i, okR_0, okR_1, putI_0, putI_b0, putI_b1, nI_10, nI_00, Nat.reduceLT, Nat.reduceLeDiff, nI_add, upM_s, upI_s, pk_mul, nf_at, pn]
def rBest (s : Nat → Nat) (x r : Int32) : Prop := (∃ w, w ≤ 3 ∧ x = nI w ∧ (s 9 = 0 ∧ r = -1000000004 ∨ s 9 ≠ 0 ∧ r = nI (s (9 + w)))) ∨ (¬ qIn x 3) ∧ r = -1000000001
theorem rBest_ex {s : Nat → Nat} (x : Int32) : ∃ r, rBest s x r := by
  by_cases h : qIn x 3
  · obtain ⟨w, hw, e⟩ := h
    by_cases h2 : s 9 = 0
    · exact ⟨_, Or.inl ⟨w, hw, e, Or.inl ⟨h2, rfl⟩⟩⟩
    · exact ⟨_, Or.inl ⟨w, hw, e, Or.inr ⟨h2, rfl⟩⟩⟩
  · exact ⟨_, Or.inr ⟨h, rfl⟩⟩
theorem m137 {σ : Sg} {M : Mem} (hm : IsM σ) {s : Nat → Nat} (hs : M 107 = nf s) (i : Inv s) {x r : Int32} (o : rBest s x r) (Q : Po) : wp 137 0 [some (.ref 106), some (.int x)] [] σ M Q = Q (some (.int r)) σ M := by
  rcases o with ⟨w, hw, e, h⟩ | ⟨h, e⟩
  · subst e
    have il := inI_w (n := 3) (by omega) hw
    rcases h with ⟨c, er⟩ | ⟨c, er⟩
    · subst er
      have z : (nI 0 = 0) := nI_0
      simp only [k137_0, k137_1, k137_2, k137_3, k137_6, k137_9, k137_11, k137_12, k137_13, k137_16, k137_18, k137_19, k137_22, k137_24, k137_27, k137_28, k137_31, k137_33, k137_34, k137_35, k137_36, im_t106 hm, im_t107 hm, im_t108 hm, im_t109 hm, im_t110 hm, im_t111 hm, im_t112 hm, im_t113 hm, im_t114 hm, im_t115 hm, im_t116 hm, im_l107 hm, im_l108 hm, im_l109 hm, im_l110 hm, im_l111 hm, im_l112 hm, im_l113 hm, im_l114 hm, im_l115 hm, im_l116 hm, im_r0 hm, im_r1 hm, im_r2 hm, im_r3 hm, im_r5 hm, im_r7 hm, im_r14 hm, im_r15 hm, im_r16 hm, im_r22 hm, rf_s, pushR_s, pushR_n, le4_0, le4_1, le4_2, le4_3, le4_4, isLong_n, isLong_i, isLong_r, isLong_f, if_true, if_false, not_true_eq_false, not_false_eq_true, isI_0, isI_9, isAr_0, isAr_1, isAr_2, isAr_9, okR_i, okR_0, okR_1, putI_0, putI_b0, putI_b1, nI_10, nI_00, Nat.reduceLT, Nat.reduceLeDiff, nI_add, upM_s, upI_s, pk_mul, nf_at, m95, il, hs, c]
    · subst er
      obtain ⟨q1, q2, q3, q4, q5, q6, q7⟩ := i.2.2.2.2.1 c
      have z : ¬ nI (s 9) = 0 := nI_ne0 (by omega) (by omega)
      have hi : 9 + w < 146 := by omega
      simp only [k137_0, k137_1, k137_2, k137_3, k137_6, k137_9, k137_11, k137_12, k137_13, k137_16, k137_18, k137_19, k137_22, k137_24, k137_27, k137_28, k137_31, k137_33, k137_34, k137_35, k137_36, im_t106 hm, im_t107 hm, im_t108 hm, im_t109 hm, im_t110 hm, im_t111 hm, im_t112 hm, im_t113 hm, im_t114 hm, im_t115 hm, im_t116 hm, im_l107 hm, im_l108 hm, im_l109 hm, im_l110 hm, im_l111 hm, im_l112 hm, im_l113 hm, im_l114 hm, im_l115 hm, im_l116 hm, im_r0 hm, im_r1 hm, im_r2 hm, im_r3 hm, im_r5 hm, im_r7 hm, im_r14 hm, im_r15 hm, im_r16 hm, im_r22 hm, rf_s, pushR_s, pushR_n, le4_0, le4_1, le4_2, le4_3, le4_4, isLong_n, isLong_i, isLong_r, isLong_f, if_true, if_false, not_true_eq_false, not_false_eq_true, isI_0, isI_9, isAr_0, isAr_1, isAr_2, isAr_9, okR_i, okR_0, okR_1, putI_0, putI_b0, putI_b1, nI_10, nI_00, Nat.reduceLT, Nat.reduceLeDiff, nI_add, upM_s, upI_s, pk_mul, nf_at, m95, il, hs, z, hi]
  · subst e
    have il := inI_q (n := 3) (by omega) h
    simp only [k137_0, k137_1, k137_2, k137_3, k137_6, k137_9, k137_11, k137_12, k137_13, k137_16, k137_18, k137_19, k137_22, k137_24, k137_27, k137_28, k137_31, k137_33, k137_34, k137_35, k137_36, im_t106 hm, im_t107 hm, im_t108 hm, im_t109 hm, im_t110 hm, im_t111 hm, im_t112 hm, im_t113 hm, im_t114 hm, im_t115 hm, im_t116 hm, im_l107 hm, im_l108 hm, im_l109 hm, im_l110 hm, im_l111 hm, im_l112 hm, im_l113 hm, im_l114 hm, im_l115 hm, im_l116 hm, im_r0 hm, im_r1 hm, im_r2 hm, im_r3 hm, im_r5 hm, im_r7 hm, im_r14 hm, im_r15 hm, im_r16 hm, im_r22 hm, rf_s, pushR_s, pushR_n, le4_0, le4_1, le4_2, le4_3, le4_4, isLong_n, isLong_i, isLong_r, isLong_f, if_true, if_false, not_true_eq_false, not_false_eq_true, isI_0, isI_9, isAr_0, isAr_1, isAr_2, isAr_9, okR_i, okR_0, okR_1, putI_0, putI_b0, putI_b1, nI_10, nI_00, Nat.reduceLT, Nat.reduceLeDiff, nI_add, upM_s, upI_s, pk_mul, nf_at, m95, il]
def rBestAt (s : Nat → Nat) (x r : Int32) : Prop := x < 0 ∧ r = -1000000001 ∨ ¬ x < 0 ∧ s 9 = 0 ∧ r = -1000000004 ∨ ¬ x < 0 ∧ s 9 ≠ 0 ∧ ((∃ k, k ≤ s 10 ∧ x = nI k ∧ r = nI (s (20 + k))) ∨ nI (s 10) < x ∧ r = -1000000004)
theorem rBestAt_ex {s : Nat → Nat} (i : Inv s) (x : Int32) : ∃ r, rBestAt s x r := by
  by_cases h : x < 0
  · exact ⟨_, Or.inl ⟨h, rfl⟩⟩
  · by_cases h9 : s 9 = 0
    · exact ⟨_, Or.inr (Or.inl ⟨h, h9, rfl⟩)⟩
    · have h10 := i.2.2.2.2.2
      rcases pk_ix x (n := s 10 + 1) (by omega) with h1 | h1 | ⟨j, hj, e⟩
      · exact absurd h1 h
      · refine ⟨_, Or.inr (Or.inr ⟨h, h9, Or.inr ⟨?_, rfl⟩⟩)⟩
        have h2 := Int32.le_iff_toInt_le.1 h1
        rw [nI_toInt (by omega)] at h2
        exact Int32.lt_iff_toInt_lt.2 (by rw [nI_toInt (by omega)]; omega)
      · exact ⟨_, Or.inr (Or.inr ⟨h, h9, Or.inl ⟨j, by omega, e, rfl⟩⟩)⟩
theorem le_of_nlt {a b : Int32} (h : ¬ a < b) : b ≤ a := Int32.le_iff_toInt_le.2 (by
  have : ¬ a.toInt < b.toInt := fun q => h (Int32.lt_iff_toInt_lt.2 q)
  omega)
theorem nle_of_lt {a b : Int32} (h : a < b) : ¬ b ≤ a := fun q => by
  have h1 := Int32.lt_iff_toInt_lt.1 h
  have h2 := Int32.le_iff_toInt_le.1 q
  omega
theorem m138 {σ : Sg} {M : Mem} (hm : IsM σ) {s : Nat → Nat} (hs : M 107 = nf s) (i : Inv s) {x r : Int32} (o : rBestAt s x r) (Q : Po) : wp 138 0 [some (.ref 106), some (.int x)] [] σ M Q = Q (some (.int r)) σ M := by
  have h10 := i.2.2.2.2.2
  rcases o with ⟨h, e⟩ | ⟨h, c, e⟩ | ⟨h, c, ⟨k, hk, e1, e⟩ | ⟨h2, e⟩⟩
  · subst e
    simp only [k138_0, k138_1, k138_4, k138_6, k138_7, k138_8, k138_11, k138_13, k138_14, k138_17, k138_18, k138_19, k138_22, k138_24, k138_25, k138_28, k138_29, k138_32, k138_34, k138_35, k138_36, k138_37, k138_40, k138_42, im_t106 hm, im_t107 hm, im_t108 hm, im_t109 hm, im_t110 hm, im_t111 hm, im_t112 hm, im_t113 hm, im_t114 hm, im_t115 hm, im_t116 hm, im_l107 hm, im_l108 hm, im_l109 hm, im_l110 hm, im_l111 hm, im_l112 hm, im_l113 hm, im_l114 hm, im_l115 hm, im_l116 hm, im_r0 hm, im_r1 hm, im_r2 hm, im_r3 hm, im_r5 hm, im_r7 hm, im_r14 hm, im_r15 hm, im_r16 hm, im_r22 hm, rf_s, pushR_s, pushR_n, le4_0, le4_1, le4_2, le4_3, le4_4, isLong_n, isLong_i, isLong_r, isLong_f, if_true, if_false, not_true_eq_false, not_false_eq_true, isI_0, isI_9, isAr_0, isAr_1, isAr_2, isAr_9, okR_i, okR_0, okR_1, putI_0, putI_b0, putI_b1, nI_10, nI_00, Nat.reduceLT, Nat.reduceLeDiff, nI_add, upM_s, upI_s, pk_mul, nf_at, h]
  · subst e
    have z : nI 0 ≤ 0 := by decide
    have z2 : ¬ 0 < nI 0 := by decide
    simp only [k138_0, k138_1, k138_4, k138_6, k138_7, k138_8, k138_11, k138_13, k138_14, k138_17, k138_18, k138_19, k138_22, k138_24, k138_25, k138_28, k138_29, k138_32, k138_34, k138_35, k138_36, k138_37, k138_40, k138_42, im_t106 hm, im_t107 hm, im_t108 hm, im_t109 hm, im_t110 hm, im_t111 hm, im_t112 hm, im_t113 hm, im_t114 hm, im_t115 hm, im_t116 hm, im_l107 hm, im_l108 hm, im_l109 hm, im_l110 hm, im_l111 hm, im_l112 hm, im_l113 hm, im_l114 hm, im_l115 hm, im_l116 hm, im_r0 hm, im_r1 hm, im_r2 hm, im_r3 hm, im_r5 hm, im_r7 hm, im_r14 hm, im_r15 hm, im_r16 hm, im_r22 hm, rf_s, pushR_s, pushR_n, le4_0, le4_1, le4_2, le4_3, le4_4, isLong_n, isLong_i, isLong_r, isLong_f, if_true, if_false, not_true_eq_false, not_false_eq_true, isI_0, isI_9, isAr_0, isAr_1, isAr_2, isAr_9, okR_i, okR_0, okR_1, putI_0, putI_b0, putI_b1, nI_10, nI_00, Nat.reduceLT, Nat.reduceLeDiff, nI_add, upM_s, upI_s, pk_mul, nf_at, h, hs, c, z, z2]
  · subst e1 e
    obtain ⟨q1, q2, q3, q4, q5, q6, q7⟩ := i.2.2.2.2.1 c
    have z : ¬ nI (s 9) ≤ 0 := nI_nle (by omega) (by omega)
    have z2 : 0 < nI (s 9) := by rw [← nI_0]; exact nI_lt (by omega) (by omega)
    have e : ¬ nI (s 10) < nI k := nI_nlt (by omega) (by omega)
    have e' : nI k ≤ nI (s 10) := nI_le (by omega) (by omega)
    have hi : 20 + k < 146 := by omega
    simp only [k138_0, k138_1, k138_4, k138_6, k138_7, k138_8, k138_11, k138_13, k138_14, k138_17, k138_18, k138_19, k138_22, k138_24, k138_25, k138_28, k138_29, k138_32, k138_34, k138_35, k138_36, k138_37, k138_40, k138_42, im_t106 hm, im_t107 hm, im_t108 hm, im_t109 hm, im_t110 hm, im_t111 hm, im_t112 hm, im_t113 hm, im_t114 hm, im_t115 hm, im_t116 hm, im_l107 hm, im_l108 hm, im_l109 hm, im_l110 hm, im_l111 hm, im_l112 hm, im_l113 hm, im_l114 hm, im_l115 hm, im_l116 hm, im_r0 hm, im_r1 hm, im_r2 hm, im_r3 hm, im_r5 hm, im_r7 hm, im_r14 hm, im_r15 hm, im_r16 hm, im_r22 hm, rf_s, pushR_s, pushR_n, le4_0, le4_1, le4_2, le4_3, le4_4, isLong_n, isLong_i, isLong_r, isLong_f, if_true, if_false, not_true_eq_false, not_false_eq_true, isI_0, isI_9, isAr_0, isAr_1, isAr_2, isAr_9, okR_i, okR_0, okR_1, putI_0, putI_b0, putI_b1, nI_10, nI_00, Nat.reduceLT, Nat.reduceLeDiff, nI_add, upM_s, upI_s, pk_mul, nf_at, h, hs, z, z2, e, e', hi]
  · subst e
    obtain ⟨q1, q2, q3, q4, q5, q6, q7⟩ := i.2.2.2.2.1 c
    have z : ¬ nI (s 9) ≤ 0 := nI_nle (by omega) (by omega)
    have z2 : 0 < nI (s 9) := by rw [← nI_0]; exact nI_lt (by omega) (by omega)
    have h2' := nle_of_lt h2
    simp only [k138_0, k138_1, k138_4, k138_6, k138_7, k138_8, k138_11, k138_13, k138_14, k138_17, k138_18, k138_19, k138_22, k138_24, k138_25, k138_28, k138_29, k138_32, k138_34, k138_35, k138_36, k138_37, k138_40, k138_42, im_t106 hm, im_t107 hm, im_t108 hm, im_t109 hm, im_t110 hm, im_t111 hm, im_t112 hm, im_t113 hm, im_t114 hm, im_t115 hm, im_t116 hm, im_l107 hm, im_l108 hm, im_l109 hm, im_l110 hm, im_l111 hm, im_l112 hm, im_l113 hm, im_l114 hm, im_l115 hm, im_l116 hm, im_r0 hm, im_r1 hm, im_r2 hm, im_r3 hm, im_r5 hm, im_r7 hm, im_r14 hm, im_r15 hm, im_r16 hm, im_r22 hm, rf_s, pushR_s, pushR_n, le4_0, le4_1, le4_2, le4_3, le4_4, isLong_n, isLong_i, isLong_r, isLong_f, if_true, if_false, not_true_eq_false, not_false_eq_true, isI_0, isI_9, isAr_0, isAr_1, isAr_2, isAr_9, okR_i, okR_0, okR_1, putI_0, putI_b0, putI_b1, nI_10, nI_00, Nat.reduceLT, Nat.reduceLeDiff, nI_add, upM_s, upI_s, pk_mul, nf_at, h, hs, z, z2, h2, h2']
