/-! the reference's answers that change nothing -/
def gtr (s : Nat → Nat) (k o : Nat) : Nat := if s (30 + 6 * o + 3) < s (30 + 6 * k + 3) then 1 else if s (30 + 6 * k + 3) = s (30 + 6 * o + 3) ∧ s (30 + 6 * k + 2) < s (30 + 6 * o + 2) then 1 else 0
theorem m140 {σ : Sg} {M : Mem} (hm : IsM σ) {s : Nat → Nat} (hs : M 107 = nf s) (g : Gph s) {k o : Nat} (hk : k < s 1) (ho : o < s 1) (Q : Po) : wp 140 0 [some (.ref 106), some (.int (nI k)), some (.int (nI o)), none] [] σ M Q = Q (some (.int (nI (gtr s k o)))) σ M := by
  have g1 := g.2.1
  have pk := g.2.2 k hk
  have po := g.2.2 o ho
  unfold pOk at pk po
  have m := fun {k w : Nat} (h : k < 16) (h2 : w < 6) Q => m102 (M := M) (Q := Q) hm h h2
  have a3 := fun Q => m (k := k) (w := 3) (by omega) (by omega) Q
  have a2 := fun Q => m (k := k) (w := 2) (by omega) (by omega) Q
  have b3 := fun Q => m (k := o) (w := 3) (by omega) (by omega) Q
  have b2 := fun Q => m (k := o) (w := 2) (by omega) (by omega) Q
  by_cases c : s (30 + 6 * o + 3) < s (30 + 6 * k + 3)
  · have d := pk_sub (a := s (30 + 6 * k + 3)) (b := s (30 + 6 * o + 3)) (by omega)
    have z : ¬ nI (s (30 + 6 * k + 3) - s (30 + 6 * o + 3)) ≤ 0 := nI_nle (by omega) (by omega)
    have z2 : 0 < nI (s (30 + 6 * k + 3) - s (30 + 6 * o + 3)) := by rw [← nI_0]; exact nI_lt (by omega) (by omega)
    simp only [k140_0, k140_1, k140_2, k140_3, k140_6, k140_7, k140_8, k140_9, k140_12, k140_13, k140_14, k140_15, k140_18, k140_19, k140_22, k140_23, k140_24, k140_25, k140_28, k140_29, k140_30, k140_31, k140_34, k140_37, k140_38, k140_41, k140_42, im_t106 hm, im_t107 hm, im_t108 hm, im_t109 hm, im_t110 hm, im_t111 hm, im_t112 hm, im_t113 hm, im_t114 hm, im_t115 hm, im_t116 hm, im_l107 hm, im_l108 hm, im_l109 hm, im_l110 hm, im_l111 hm, im_l112 hm, im_l113 hm, im_l114 hm, im_l115 hm, im_l116 hm, im_r0 hm, im_r1 hm, im_r2 hm, im_r3 hm, im_r5 hm, im_r7 hm, im_r14 hm, im_r15 hm, im_r16 hm, im_r22 hm, rf_s, pushR_s, pushR_n, le4_0, le4_1, le4_2, le4_3, le4_4, isLong_n, isLong_i, isLong_r, isLong_f, if_true, if_false, not_true_eq_false, not_false_eq_true, isI_0, isI_9, isAr_0, isAr_1, isAr_2, isAr_9, okR_i, okR_0, okR_1, putI_0, putI_b0, putI_b1, nI_10, nI_00, Nat.reduceLT, Nat.reduceLeDiff, nI_add, upM_s, upI_s, pk_mul, nf_at, a3, b3, hs, d, z, z2, gtr, c]
  · by_cases c2 : s (30 + 6 * k + 3) = s (30 + 6 * o + 3)
    · have d := pk_sub (a := s (30 + 6 * o + 3)) (b := s (30 + 6 * o + 3)) (by omega)
      rw [Nat.sub_self] at d
      have z : nI 0 ≤ 0 := by decide
      have z2 : ¬ 0 < nI 0 := by decide
      by_cases c3 : s (30 + 6 * k + 2) < s (30 + 6 * o + 2)
      · have z3 : nI (s (30 + 6 * k + 2)) < nI (s (30 + 6 * o + 2)) := nI_lt c3 (by omega)
        have e : gtr s k o = 1 := by unfold gtr; rw [if_neg c, if_pos ⟨c2, c3⟩]
        rw [e]
        simp only [k140_0, k140_1, k140_2, k140_3, k140_6, k140_7, k140_8, k140_9, k140_12, k140_13, k140_14, k140_15, k140_18, k140_19, k140_22, k140_23, k140_24, k140_25, k140_28, k140_29, k140_30, k140_31, k140_34, k140_37, k140_38, k140_41, k140_42, im_t106 hm, im_t107 hm, im_t108 hm, im_t109 hm, im_t110 hm, im_t111 hm, im_t112 hm, im_t113 hm, im_t114 hm, im_t115 hm, im_t116 hm, im_l107 hm, im_l108 hm, im_l109 hm, im_l110 hm, im_l111 hm, im_l112 hm, im_l113 hm, im_l114 hm, im_l115 hm, im_l116 hm, im_r0 hm, im_r1 hm, im_r2 hm, im_r3 hm, im_r5 hm, im_r7 hm, im_r14 hm, im_r15 hm, im_r16 hm, im_r22 hm, rf_s, pushR_s, pushR_n, le4_0, le4_1, le4_2, le4_3, le4_4, isLong_n, isLong_i, isLong_r, isLong_f, if_true, if_false, not_true_eq_false, not_false_eq_true, isI_0, isI_9, isAr_0, isAr_1, isAr_2, isAr_9, okR_i, okR_0, okR_1, putI_0, putI_b0, putI_b1, nI_10, nI_00, Nat.reduceLT, Nat.reduceLeDiff, nI_add, upM_s, upI_s, pk_mul, nf_at, a3, b3, a2, b2, hs, c2, d, z, z2, z3]
      · have z3 : ¬ nI (s (30 + 6 * k + 2)) < nI (s (30 + 6 * o + 2)) := nI_nlt (by omega) (by omega)
        have e : gtr s k o = 0 := by unfold gtr; rw [if_neg c, if_neg (fun h => c3 h.2)]
        rw [e]
        simp only [k140_0, k140_1, k140_2, k140_3, k140_6, k140_7, k140_8, k140_9, k140_12, k140_13, k140_14, k140_15, k140_18, k140_19, k140_22, k140_23, k140_24, k140_25, k140_28, k140_29, k140_30, k140_31, k140_34, k140_37, k140_38, k140_41, k140_42, im_t106 hm, im_t107 hm, im_t108 hm, im_t109 hm, im_t110 hm, im_t111 hm, im_t112 hm, im_t113 hm, im_t114 hm, im_t115 hm, im_t116 hm, im_l107 hm, im_l108 hm, im_l109 hm, im_l110 hm, im_l111 hm, im_l112 hm, im_l113 hm, im_l114 hm, im_l115 hm, im_l116 hm, im_r0 hm, im_r1 hm, im_r2 hm, im_r3 hm, im_r5 hm, im_r7 hm, im_r14 hm, im_r15 hm, im_r16 hm, im_r22 hm, rf_s, pushR_s, pushR_n, le4_0, le4_1, le4_2, le4_3, le4_4, isLong_n, isLong_i, isLong_r, isLong_f, if_true, if_false, not_true_eq_false, not_false_eq_true, isI_0, isI_9, isAr_0, isAr_1, isAr_2, isAr_9, okR_i, okR_0, okR_1, putI_0, putI_b0, putI_b1, nI_10, nI_00, Nat.reduceLT, Nat.reduceLeDiff, nI_add, upM_s, upI_s, pk_mul, nf_at, a3, b3, a2, b2, hs, c2, d, z, z2, z3]
    · have lt : s (30 + 6 * k + 3) < s (30 + 6 * o + 3) := by omega
      have z : nI (s (30 + 6 * k + 3)) - nI (s (30 + 6 * o + 3)) < 0 := pk_sneg (by omega) lt
      have z1 : nI (s (30 + 6 * k + 3)) - nI (s (30 + 6 * o + 3)) ≤ 0 := Int32.le_iff_toInt_le.2 (Int.le_of_lt (Int32.lt_iff_toInt_lt.1 z))
      have z2 : ¬ 0 < nI (s (30 + 6 * k + 3)) - nI (s (30 + 6 * o + 3)) := fun h => by
        have := Int32.lt_iff_toInt_lt.1 h
        have := Int32.lt_iff_toInt_lt.1 z
        omega
      have z3 : ¬ nI (s (30 + 6 * k + 3)) - nI (s (30 + 6 * o + 3)) = 0 := fun h => by
        have := Int32.lt_iff_toInt_lt.1 z
        rw [h] at this
        omega
      have e : gtr s k o = 0 := by unfold gtr; rw [if_neg c, if_neg (fun h => c2 h.1)]
      rw [e]
      simp only [k140_0, k140_1, k140_2, k140_3, k140_6, k140_7, k140_8, k140_9, k140_12, k140_13, k140_14, k140_15, k140_18, k140_19, k140_22, k140_23, k140_24, k140_25, k140_28, k140_29, k140_30, k140_31, k140_34, k140_37, k140_38, k140_41, k140_42, im_t106 hm, im_t107 hm, im_t108 hm, im_t109 hm, im_t110 hm, im_t111 hm, im_t112 hm, im_t113 hm, im_t114 hm, im_t115 hm, im_t116 hm, im_l107 hm, im_l108 hm, im_l109 hm, im_l110 hm, im_l111 hm, im_l112 hm, im_l113 hm, im_l114 hm, im_l115 hm, im_l116 hm, im_r0 hm, im_r1 hm, im_r2 hm, im_r3 hm, im_r5 hm, im_r7 hm, im_r14 hm, im_r15 hm, im_r16 hm, im_r22 hm, rf_s, pushR_s, pushR_n, le4_0, le4_1, le4_2, le4_3, le4_4, isLong_n, isLong_i, isLong_r, isLong_f, if_true, if_false, not_true_eq_false, not_false_eq_true, isI_0, isI_9, isAr_0, isAr_1, isAr_2, isAr_9, okR_i, okR_0, okR_1, putI_0, putI_b0, putI_b1, nI_10, nI_00, Nat.reduceLT, Nat.reduceLeDiff, nI_add, upM_s, upI_s, pk_mul, nf_at, a3, b3, hs, z1, z2, z3]
def fI (n : Nat) : Int32 := if n = 16 then -1 else nI n
/-- the greatest path that can be taken, among the first n; 16 if there is none -/
def gp (s : Nat → Nat) (h b : Nat) : Nat → Nat
  | 0 => 16
  | k + 1 => if cg s h b k = 1 ∧ (gp s h b k = 16 ∨ gtr s k (gp s h b k) = 1) then k else gp s h b k
theorem gp_ok {s : Nat → Nat} {h b : Nat} : ∀ n, n ≤ 16 → gp s h b n = 16 ∨ gp s h b n < n ∧ cg s h b (gp s h b n) = 1
  | 0, _ => Or.inl rfl
  | k + 1, hk => by
    unfold gp
    by_cases c : cg s h b k = 1 ∧ (gp s h b k = 16 ∨ gtr s k (gp s h b k) = 1)
    · rw [if_pos c]; exact Or.inr ⟨by omega, c.1⟩
    · rw [if_neg c]
      rcases gp_ok k (by omega) with h1 | ⟨h1, h2⟩
      · exact Or.inl h1
      · exact Or.inr ⟨by omega, h2⟩
theorem gtr_le {s : Nat → Nat} {k o : Nat} : gtr s k o ≤ 1 := by
  unfold gtr
  split
  · exact Nat.le_refl _
  · split <;> omega
def lastB (f : Nat → Nat) : Nat → Option Value
  | 0 => none
  | k + 1 => some (.int (nI (f k)))
theorem m141 {σ : Sg} {M : Mem} (hm : IsM σ) {s : Nat → Nat} (hs : M 107 = nf s) (g : Gph s) {h b : Nat} (hh : h < 10) (hb : b < 1024) (r1 : M 106 8 = nI h) (r2 : M 106 12 = nI b) (Q : Po) : wp 141 0 [some (.ref 106), none, none, none] [] σ M Q = Q (some (.int (fI (gp s h b (s 1))))) σ M := by
  have g1 := g.2.1
  simp only [k141_0, k141_1, k141_2, k141_3, rf_s, pushR_s, pushR_n, le4_0, le4_1, le4_2, le4_3, le4_4, isLong_n, isLong_i, isLong_r, isLong_f, if_true, if_false, not_true_eq_false, not_false_eq_true, isI_0, isI_9, isAr_0, isAr_1, isAr_2, isAr_9, okR_i, okR_0, okR_1, putI_0, putI_b0, putI_b1, nI_10, nI_00, Nat.reduceLT, Nat.reduceLeDiff, nI_add, upM_s, upI_s, pk_mul, nf_at]
  refine (wp_up (n := s 1) (fun k => [some (.ref 106), some (.int (fI (gp s h b k))), some (.int (nI k)), lastB (fun k => if cg s h b k = 1 ∧ (gp s h b k = 16 ∨ gtr s k (gp s h b k) = 1) then 1 else 0) k]) (fun _ => M) Q (fun k hk => ?_)).trans ?_
  · have e : nI k < nI (s 1) := nI_lt hk (by omega)
    have m := fun Q => m112 (Q := Q) hm hs g hk hh hb r1 r2
    have hc := @cg_le s h b k
    have ok := gp_ok (s := s) (h := h) (b := b) k (by omega)
    have hk16 : ¬ k = 16 := by omega
    rw [k141_4]
    rcases (show cg s h b k = 0 ∨ cg s h b k = 1 by omega) with c | c
    · simp only [k141_5, k141_6, k141_9, k141_10, k141_11, k141_14, k141_15, k141_16, k141_19, k141_22, k141_23, k141_24, k141_27, k141_28, k141_29, k141_30, k141_33, k141_36, k141_37, k141_40, k141_41, k141_42, k141_43, k141_46, k141_47, k141_50, k141_51, k141_52, k141_55, im_t106 hm, im_t107 hm, im_t108 hm, im_t109 hm, im_t110 hm, im_t111 hm, im_t112 hm, im_t113 hm, im_t114 hm, im_t115 hm, im_t116 hm, im_l107 hm, im_l108 hm, im_l109 hm, im_l110 hm, im_l111 hm, im_l112 hm, im_l113 hm, im_l114 hm, im_l115 hm, im_l116 hm, im_r0 hm, im_r1 hm, im_r2 hm, im_r3 hm, im_r5 hm, im_r7 hm, im_r14 hm, im_r15 hm, im_r16 hm, im_r22 hm, rf_s, pushR_s, pushR_n, le4_0, le4_1, le4_2, le4_3, le4_4, isLong_n, isLong_i, isLong_r, isLong_f, if_true, if_false, not_true_eq_false, not_false_eq_true, isI_0, isI_9, isAr_0, isAr_1, isAr_2, isAr_9, okR_i, okR_0, okR_1, putI_0, putI_b0, putI_b1, nI_10, nI_00, Nat.reduceLT, Nat.reduceLeDiff, nI_add, upM_s, upI_s, pk_mul, nf_at, hs, e, m, c, gp, lastB, Nat.reduceEqDiff, false_and]
    · by_cases c2 : gp s h b k = 16
      · simp only [k141_5, k141_6, k141_9, k141_10, k141_11, k141_14, k141_15, k141_16, k141_19, k141_22, k141_23, k141_24, k141_27, k141_28, k141_29, k141_30, k141_33, k141_36, k141_37, k141_40, k141_41, k141_42, k141_43, k141_46, k141_47, k141_50, k141_51, k141_52, k141_55, im_t106 hm, im_t107 hm, im_t108 hm, im_t109 hm, im_t110 hm, im_t111 hm, im_t112 hm, im_t113 hm, im_t114 hm, im_t115 hm, im_t116 hm, im_l107 hm, im_l108 hm, im_l109 hm, im_l110 hm, im_l111 hm, im_l112 hm, im_l113 hm, im_l114 hm, im_l115 hm, im_l116 hm, im_r0 hm, im_r1 hm, im_r2 hm, im_r3 hm, im_r5 hm, im_r7 hm, im_r14 hm, im_r15 hm, im_r16 hm, im_r22 hm, rf_s, pushR_s, pushR_n, le4_0, le4_1, le4_2, le4_3, le4_4, isLong_n, isLong_i, isLong_r, isLong_f, if_true, if_false, not_true_eq_false, not_false_eq_true, isI_0, isI_9, isAr_0, isAr_1, isAr_2, isAr_9, okR_i, okR_0, okR_1, putI_0, putI_b0, putI_b1, nI_10, nI_00, Nat.reduceLT, Nat.reduceLeDiff, nI_add, upM_s, upI_s, pk_mul, nf_at, hs, e, m, c, gp, lastB, c2, fI, true_and, true_or, hk16]
      · have lt : gp s h b k < k := by rcases ok with h1 | h1; exact absurd h1 c2; exact h1.1
        have m2 := fun Q => m140 (Q := Q) hm hs g hk (o := gp s h b k) (by omega)
        have z : ¬ nI (gp s h b k) = -1 := ne_m1 (by omega)
        have hg := @gtr_le s k (gp s h b k)
        rcases (show gtr s k (gp s h b k) = 0 ∨ gtr s k (gp s h b k) = 1 by omega) with c3 | c3
        · simp only [k141_5, k141_6, k141_9, k141_10, k141_11, k141_14, k141_15, k141_16, k141_19, k141_22, k141_23, k141_24, k141_27, k141_28, k141_29, k141_30, k141_33, k141_36, k141_37, k141_40, k141_41, k141_42, k141_43, k141_46, k141_47, k141_50, k141_51, k141_52, k141_55, im_t106 hm, im_t107 hm, im_t108 hm, im_t109 hm, im_t110 hm, im_t111 hm, im_t112 hm, im_t113 hm, im_t114 hm, im_t115 hm, im_t116 hm, im_l107 hm, im_l108 hm, im_l109 hm, im_l110 hm, im_l111 hm, im_l112 hm, im_l113 hm, im_l114 hm, im_l115 hm, im_l116 hm, im_r0 hm, im_r1 hm, im_r2 hm, im_r3 hm, im_r5 hm, im_r7 hm, im_r14 hm, im_r15 hm, im_r16 hm, im_r22 hm, rf_s, pushR_s, pushR_n, le4_0, le4_1, le4_2, le4_3, le4_4, isLong_n, isLong_i, isLong_r, isLong_f, if_true, if_false, not_true_eq_false, not_false_eq_true, isI_0, isI_9, isAr_0, isAr_1, isAr_2, isAr_9, okR_i, okR_0, okR_1, putI_0, putI_b0, putI_b1, nI_10, nI_00, Nat.reduceLT, Nat.reduceLeDiff, nI_add, upM_s, upI_s, pk_mul, nf_at, hs, e, m, c, gp, lastB, c2, fI, true_and, false_or, m2, z, c3, hk16, Nat.reduceEqDiff]
        · simp only [k141_5, k141_6, k141_9, k141_10, k141_11, k141_14, k141_15, k141_16, k141_19, k141_22, k141_23, k141_24, k141_27, k141_28, k141_29, k141_30, k141_33, k141_36, k141_37, k141_40, k141_41, k141_42, k141_43, k141_46, k141_47, k141_50, k141_51, k141_52, k141_55, im_t106 hm, im_t107 hm, im_t108 hm, im_t109 hm, im_t110 hm, im_t111 hm, im_t112 hm, im_t113 hm, im_t114 hm, im_t115 hm, im_t116 hm, im_l107 hm, im_l108 hm, im_l109 hm, im_l110 hm, im_l111 hm, im_l112 hm, im_l113 hm, im_l114 hm, im_l115 hm, im_l116 hm, im_r0 hm, im_r1 hm, im_r2 hm, im_r3 hm, im_r5 hm, im_r7 hm, im_r14 hm, im_r15 hm, im_r16 hm, im_r22 hm, rf_s, pushR_s, pushR_n, le4_0, le4_1, le4_2, le4_3, le4_4, isLong_n, isLong_i, isLong_r, isLong_f, if_true, if_false, not_true_eq_false, not_false_eq_true, isI_0, isI_9, isAr_0, isAr_1, isAr_2, isAr_9, okR_i, okR_0, okR_1, putI_0, putI_b0, putI_b1, nI_10, nI_00, Nat.reduceLT, Nat.reduceLeDiff, nI_add, upM_s, upI_s, pk_mul, nf_at, hs, e, m, c, gp, lastB, c2, fI, true_and, false_or, m2, z, c3, hk16]
  · have e : ¬ nI (s 1) < nI (s 1) := nI_nlt (Nat.le_refl _) (by omega)
    rw [k141_4]
    simp only [k141_5, k141_6, k141_9, k141_10, k141_11, k141_58, k141_59, im_t106 hm, im_t107 hm, im_t108 hm, im_t109 hm, im_t110 hm, im_t111 hm, im_t112 hm, im_t113 hm, im_t114 hm, im_t115 hm, im_t116 hm, im_l107 hm, im_l108 hm, im_l109 hm, im_l110 hm, im_l111 hm, im_l112 hm, im_l113 hm, im_l114 hm, im_l115 hm, im_l116 hm, im_r0 hm, im_r1 hm, im_r2 hm, im_r3 hm, im_r5 hm, im_r7 hm, im_r14 hm, im_r15 hm, im_r16 hm, im_r22 hm, rf_s, pushR_s, pushR_n, le4_0, le4_1, le4_2, le4_3, le4_4, isLong_n, isLong_i, isLong_r, isLong_f, if_true, if_false, not_true_eq_false, not_false_eq_true, isI_0, isI_9, isAr_0, isAr_1, isAr_2, isAr_9, okR_i, okR_0, okR_1, putI_0, putI_b0, putI_b1, nI_10, nI_00, Nat.reduceLT, Nat.reduceLeDiff, nI_add, upM_s, upI_s, pk_mul, nf_at, hs, e]
def gwalk (s : Nat → Nat) : Nat → (Nat × Nat × Nat × Nat × (Nat → Nat)) → (Nat × Nat × Nat × Nat × (Nat → Nat))
  | 0, W => W
  | n + 1, W => if hr W = s 7 then W else if gp s (hr W) W.2.2.2.1 (s 1) = 16 then W else gwalk s n (adv s W (gp s (hr W) W.2.2.2.1 (s 1)))
def gW (s : Nat → Nat) : (Nat × Nat × Nat × Nat × (Nat → Nat)) := gwalk s 10 W0
theorem gwalk_ok {s : Nat → Nat} (g : Gph s) : ∀ (n : Nat) (W : (Nat × Nat × Nat × Nat × (Nat → Nat))), W.2.1 + n = 10 → IW s W → IW s (gwalk s n W)
  | 0, W, hn, i => i
  | n + 1, W, hn, i => by
    unfold gwalk
    by_cases c1 : hr W = s 7
    · rw [if_pos c1]; exact i
    · rw [if_neg c1]
      by_cases c2 : gp s (hr W) W.2.2.2.1 (s 1) = 16
      · rw [if_pos c2]; exact i
      · rw [if_neg c2]
        rcases gp_ok (s := s) (h := hr W) (b := W.2.2.2.1) (s 1) g.2.1 with h | ⟨h1, h2⟩
        · exact absurd h c2
        · exact gwalk_ok g n _ (by show W.2.1 + 1 + n = 10; omega) (IW_adv g i h1 h2).2
theorem m142L {σ : Sg} (hm : IsM σ) {s : Nat → Nat} (g : Gph s) (h7 : s 7 < 10) (x : Int32) : ∀ (n : Nat) (W : (Nat × Nat × Nat × Nat × (Nat → Nat))) (M : Mem) (l3 : Option Value), W.2.1 + n = 10 → IW s W → RV M W → M 107 = nf s → ∃ M' l2' l3', (∀ Q, wp 142 31 [some (.ref 106), some (.int x), some (.int (nI 1)), l3] [] σ M Q = wp 142 77 [some (.ref 106), some (.int x), l2', l3'] [] σ M' Q) ∧ RV M' (gwalk s n W) ∧ (∀ o, o ≠ 106 → o ≠ 113 → M' o = M o) ∧ (∀ i, i < 8 ∨ 12 < i → M' 106 i = M 106 i)
  | 0, W, M, l3, hn, i, _, _ => by have := i.1; omega
  | n + 1, W, M, l3, hn, i, rv, hs => by
    have rv' := rv
    obtain ⟨v1, v2, v3, v4, v5, v6⟩ := rv'
    have g0 := g.1
    have g1 := g.2.1
    have hh : hr W < 10 := Nat.lt_of_lt_of_le (i.2.2.1 W.2.1 (Nat.le_refl _)) g0
    have hb : W.2.2.2.1 < 1024 := i.2.2.2.2.1
    have m := fun Q => m141 (Q := Q) hm hs g hh hb v1 v5
    unfold gwalk
    by_cases c1 : hr W = s 7
    · rw [if_pos c1]
      refine ⟨M, some (.int (nI 1)), l3, fun Q => ?_, rv, fun _ _ _ => rfl, fun _ _ => rfl⟩
      rw [k142_31]
      simp only [k142_32, k142_35, k142_36, k142_39, k142_40, k142_43, k142_45, k142_46, im_t106 hm, im_t107 hm, im_t108 hm, im_t109 hm, im_t110 hm, im_t111 hm, im_t112 hm, im_t113 hm, im_t114 hm, im_t115 hm, im_t116 hm, im_l107 hm, im_l108 hm, im_l109 hm, im_l110 hm, im_l111 hm, im_l112 hm, im_l113 hm, im_l114 hm, im_l115 hm, im_l116 hm, im_r0 hm, im_r1 hm, im_r2 hm, im_r3 hm, im_r5 hm, im_r7 hm, im_r14 hm, im_r15 hm, im_r16 hm, im_r22 hm, rf_s, pushR_s, pushR_n, le4_0, le4_1, le4_2, le4_3, le4_4, isLong_n, isLong_i, isLong_r, isLong_f, if_true, if_false, not_true_eq_false, not_false_eq_true, isI_0, isI_9, isAr_0, isAr_1, isAr_2, isAr_9, okR_i, okR_0, okR_1, putI_0, putI_b0, putI_b1, nI_10, nI_00, Nat.reduceLT, Nat.reduceLeDiff, nI_add, upM_s, upI_s, pk_mul, nf_at, hs, v1, c1]
    · rw [if_neg c1]
      have n7 : ¬ nI (hr W) = nI (s 7) := ne_n (by omega) (by omega) c1
      by_cases c2 : gp s (hr W) W.2.2.2.1 (s 1) = 16
      · rw [if_pos c2]
        rw [c2] at m
        have f16 : fI 16 = -1 := if_pos rfl
        refine ⟨M, some (.int (nI 0)), some (.int (-1)), fun Q => ?_, rv, fun _ _ _ => rfl, fun _ _ => rfl⟩
        rw [k142_31]
        simp only [k142_32, k142_35, k142_36, k142_39, k142_40, k142_43, k142_45, k142_46, k142_49, k142_50, k142_53, k142_54, k142_55, k142_56, k142_59, k142_60, k142_63, k142_64, k142_65, k142_66, k142_69, k142_70, k142_71, im_t106 hm, im_t107 hm, im_t108 hm, im_t109 hm, im_t110 hm, im_t111 hm, im_t112 hm, im_t113 hm, im_t114 hm, im_t115 hm, im_t116 hm, im_l107 hm, im_l108 hm, im_l109 hm, im_l110 hm, im_l111 hm, im_l112 hm, im_l113 hm, im_l114 hm, im_l115 hm, im_l116 hm, im_r0 hm, im_r1 hm, im_r2 hm, im_r3 hm, im_r5 hm, im_r7 hm, im_r14 hm, im_r15 hm, im_r16 hm, im_r22 hm, rf_s, pushR_s, pushR_n, le4_0, le4_1, le4_2, le4_3, le4_4, isLong_n, isLong_i, isLong_r, isLong_f, if_true, if_false, not_true_eq_false, not_false_eq_true, isI_0, isI_9, isAr_0, isAr_1, isAr_2, isAr_9, okR_i, okR_0, okR_1, putI_0, putI_b0, putI_b1, nI_10, nI_00, Nat.reduceLT, Nat.reduceLeDiff, nI_add, upM_s, upI_s, pk_mul, nf_at, hs, v1, n7, m, f16]
        rw [k142_74, k142_31]
        simp only [k142_32, rf_s, pushR_s, pushR_n, le4_0, le4_1, le4_2, le4_3, le4_4, isLong_n, isLong_i, isLong_r, isLong_f, if_true, if_false, not_true_eq_false, not_false_eq_true, isI_0, isI_9, isAr_0, isAr_1, isAr_2, isAr_9, okR_i, okR_0, okR_1, putI_0, putI_b0, putI_b1, nI_10, nI_00, Nat.reduceLT, Nat.reduceLeDiff, nI_add, upM_s, upI_s, pk_mul, nf_at]
      · rw [if_neg c2]
        rcases gp_ok (s := s) (h := hr W) (b := W.2.2.2.1) (s 1) g.2.1 with h | ⟨h1, h2⟩
        · exact absurd h c2
        · obtain ⟨w9, ia⟩ := IW_adv g i h1 h2
          obtain ⟨d1, d2, d3, d4⟩ := cg_1 g h1 h2
          obtain ⟨N, a1, a2, a3, a4⟩ := m113 hm hs g rv h1 hh (by omega) w9
          have fk : fI (gp s (hr W) W.2.2.2.1 (s 1)) = nI (gp s (hr W) W.2.2.2.1 (s 1)) := if_neg c2
          rw [fk] at m
          generalize gp s (hr W) W.2.2.2.1 (s 1) = k at *
          have z : ¬ nI k = -1 := ne_m1 (by omega)
          obtain ⟨M', l2', l3', b1, b2, b3, b4⟩ := m142L hm g h7 x n (adv s W k) N (some (.int (nI k))) (by show W.2.1 + 1 + n = 10; omega) ia a2 (by rw [a3 107 (by decide) (by decide), hs])
          refine ⟨M', l2', l3', fun Q => ?_, b2, fun o q1 q2 => by rw [b3 o q1 q2, a3 o q1 q2], fun j hj => by rw [b4 j hj, a4 j hj]⟩
          rw [← b1, k142_31]
          simp only [k142_32, k142_35, k142_36, k142_39, k142_40, k142_43, k142_45, k142_46, k142_49, k142_50, k142_53, k142_54, k142_55, k142_56, k142_59, k142_60, k142_63, k142_64, k142_65, k142_66, k142_69, k142_70, k142_71, im_t106 hm, im_t107 hm, im_t108 hm, im_t109 hm, im_t110 hm, im_t111 hm, im_t112 hm, im_t113 hm, im_t114 hm, im_t115 hm, im_t116 hm, im_l107 hm, im_l108 hm, im_l109 hm, im_l110 hm, im_l111 hm, im_l112 hm, im_l113 hm, im_l114 hm, im_l115 hm, im_l116 hm, im_r0 hm, im_r1 hm, im_r2 hm, im_r3 hm, im_r5 hm, im_r7 hm, im_r14 hm, im_r15 hm, im_r16 hm, im_r22 hm, rf_s, pushR_s, pushR_n, le4_0, le4_1, le4_2, le4_3, le4_4, isLong_n, isLong_i, isLong_r, isLong_f, if_true, if_false, not_true_eq_false, not_false_eq_true, isI_0, isI_9, isAr_0, isAr_1, isAr_2, isAr_9, okR_i, okR_0, okR_1, putI_0, putI_b0, putI_b1, nI_10, nI_00, Nat.reduceLT, Nat.reduceLeDiff, nI_add, upM_s, upI_s, pk_mul, nf_at, hs, v1, n7, m, z, a1]
          rw [k142_74]
def aGreedy (s : Nat → Nat) (w : Nat) : Nat := if w = 0 then (gW s).1 else if w = 1 then (gW s).2.1 else if w = 3 then hr (gW s) else if hr (gW s) = s 7 then 1 else 0
/-- which question a number asks -/
def qIn (x : Int32) (n : Nat) : Prop := ∃ w, w ≤ n ∧ x = nI w
def rGreedy (s : Nat → Nat) (x r : Int32) : Prop := (∃ w, w ≤ 3 ∧ x = nI w ∧ (s 0 < 2 ∧ r = -1000000002 ∨ 2 ≤ s 0 ∧ r = nI (aGreedy s w))) ∨ (¬ qIn x 3) ∧ r = -1000000001
theorem rGreedy_ex {s : Nat → Nat} (x : Int32) : ∃ r, rGreedy s x r := by
  by_cases h : qIn x 3
  · obtain ⟨w, hw, e⟩ := h
    by_cases h2 : s 0 < 2
    · exact ⟨_, Or.inl ⟨w, hw, e, Or.inl ⟨h2, rfl⟩⟩⟩
    · exact ⟨_, Or.inl ⟨w, hw, e, Or.inr ⟨by omega, rfl⟩⟩⟩
  · exact ⟨_, Or.inr ⟨h, rfl⟩⟩
theorem inI_q {x : Int32} {n : Nat} (hn : n < 1000) (h : ¬ qIn x n) : inI x (nI 0) (nI n) = nI 0 := inI_d (by omega) (by omega) (fun ⟨w, _, h2, h3⟩ => h ⟨w, h2, h3⟩)
theorem inI_w {n w : Nat} (hn : n < 1000) (h : w ≤ n) : inI (nI w) (nI 0) (nI n) = nI 1 := inI_c (by omega) (by omega) (Nat.zero_le _) h rfl
theorem m142 {σ : Sg} {M : Mem} (hm : IsM σ) {s : Nat → Nat} (hs : M 107 = nf s) (i : Inv s) {x r : Int32} (o : rGreedy s x r) : ∃ M' : Mem, (∀ Q, wp 142 0 [some (.ref 106), some (.int x), none, none] [] σ M Q = Q (some (.int r)) σ M') ∧ (∀ o, o ≠ 106 → o ≠ 113 → M' o = M o) ∧ (∀ i, i < 8 ∨ 13 < i → M' 106 i = M 106 i) := by
  have g := i.1
  have g0 := i.1.1
  rcases o with ⟨w, hw, e, ⟨h1, h2⟩ | ⟨h1, h2⟩⟩ | ⟨h, e4⟩
  · refine ⟨M, fun Q => ?_, fun _ _ _ => rfl, fun _ _ => rfl⟩
    have il := inI_w (n := 3) (by omega) hw
    have z : nI (s 0) < nI 2 := nI_lt h1 (by omega)
    subst e
    rw [h2]
    simp only [k142_0, k142_1, k142_2, k142_3, k142_6, k142_9, k142_11, k142_12, k142_13, k142_16, k142_17, k142_18, k142_19, k142_22, k142_24, im_t106 hm, im_t107 hm, im_t108 hm, im_t109 hm, im_t110 hm, im_t111 hm, im_t112 hm, im_t113 hm, im_t114 hm, im_t115 hm, im_t116 hm, im_l107 hm, im_l108 hm, im_l109 hm, im_l110 hm, im_l111 hm, im_l112 hm, im_l113 hm, im_l114 hm, im_l115 hm, im_l116 hm, im_r0 hm, im_r1 hm, im_r2 hm, im_r3 hm, im_r5 hm, im_r7 hm, im_r14 hm, im_r15 hm, im_r16 hm, im_r22 hm, rf_s, pushR_s, pushR_n, le4_0, le4_1, le4_2, le4_3, le4_4, isLong_n, isLong_i, isLong_r, isLong_f, if_true, if_false, not_true_eq_false, not_false_eq_true, isI_0, isI_9, isAr_0, isAr_1, isAr_2, isAr_9, okR_i, okR_0, okR_1, putI_0, putI_b0, putI_b1, nI_10, nI_00, Nat.reduceLT, Nat.reduceLeDiff, nI_add, upM_s, upI_s, pk_mul, nf_at, m95, il, hs, z]
  · obtain ⟨M1, a1, a2, a3, a4, a5⟩ := m111 (M := M) hm
    obtain ⟨M2, l2, l3, b1, b2, b3, b4⟩ := m142L hm g i.2.2.1.2.1 x 10 W0 M1 none rfl (IW_0 (by omega)) a2 (by rw [a4 107 (by decide) (by decide), hs])
    have iw := gwalk_ok g 10 W0 rfl (IW_0 (by omega))
    refine ⟨M2, fun Q => ?_, fun o q1 q2 => by rw [b3 o q1 q2, a4 o q1 q2], fun j hj => by rw [b4 j (by omega), a5 j hj]⟩
    have il := inI_w (n := 3) (by omega) hw
    have z : ¬ nI (s 0) < nI 2 := nI_nlt h1 (by omega)
    obtain ⟨v1, v2, v3, v4, v5, v6⟩ := b2
    have hs2 : M2 107 = nf s := by rw [b3 107 (by decide) (by decide), a4 107 (by decide) (by decide), hs]
    subst e
    rw [h2]
    rw [← gW] at v1 v2 v3 iw
    have hh : hr (gW s) < 10 := Nat.lt_of_lt_of_le (iw.2.2.1 _ (Nat.le_refl _)) g0
    have h7 := i.2.2.1.2.1
    simp only [k142_0, k142_1, k142_2, k142_3, k142_6, k142_9, k142_11, k142_12, k142_13, k142_16, k142_17, k142_18, k142_19, k142_22, k142_24, k142_25, k142_26, k142_29, k142_30, im_t106 hm, im_t107 hm, im_t108 hm, im_t109 hm, im_t110 hm, im_t111 hm, im_t112 hm, im_t113 hm, im_t114 hm, im_t115 hm, im_t116 hm, im_l107 hm, im_l108 hm, im_l109 hm, im_l110 hm, im_l111 hm, im_l112 hm, im_l113 hm, im_l114 hm, im_l115 hm, im_l116 hm, im_r0 hm, im_r1 hm, im_r2 hm, im_r3 hm, im_r5 hm, im_r7 hm, im_r14 hm, im_r15 hm, im_r16 hm, im_r22 hm, rf_s, pushR_s, pushR_n, le4_0, le4_1, le4_2, le4_3, le4_4, isLong_n, isLong_i, isLong_r, isLong_f, if_true, if_false, not_true_eq_false, not_false_eq_true, isI_0, isI_9, isAr_0, isAr_1, isAr_2, isAr_9, okR_i, okR_0, okR_1, putI_0, putI_b0, putI_b1, nI_10, nI_00, Nat.reduceLT, Nat.reduceLeDiff, nI_add, upM_s, upI_s, pk_mul, nf_at, m95, il, hs, z, a1, b1]
    rcases (show w = 0 ∨ w = 1 ∨ w = 2 ∨ w = 3 by omega) with c | c | c | c <;> subst c
    · simp only [k142_77, k142_78, k142_81, k142_82, k142_85, k142_88, k142_89, k142_90, k142_93, k142_94, k142_97, k142_100, k142_101, k142_102, k142_105, k142_106, k142_109, k142_112, k142_113, k142_116, k142_117, k142_120, k142_122, k142_123, k142_126, k142_127, k142_130, k142_131, im_t106 hm, im_t107 hm, im_t108 hm, im_t109 hm, im_t110 hm, im_t111 hm, im_t112 hm, im_t113 hm, im_t114 hm, im_t115 hm, im_t116 hm, im_l107 hm, im_l108 hm, im_l109 hm, im_l110 hm, im_l111 hm, im_l112 hm, im_l113 hm, im_l114 hm, im_l115 hm, im_l116 hm, im_r0 hm, im_r1 hm, im_r2 hm, im_r3 hm, im_r5 hm, im_r7 hm, im_r14 hm, im_r15 hm, im_r16 hm, im_r22 hm, rf_s, pushR_s, pushR_n, le4_0, le4_1, le4_2, le4_3, le4_4, isLong_n, isLong_i, isLong_r, isLong_f, if_true, if_false, not_true_eq_false, not_false_eq_true, isI_0, isI_9, isAr_0, isAr_1, isAr_2, isAr_9, okR_i, okR_0, okR_1, putI_0, putI_b0, putI_b1, nI_10, nI_00, Nat.reduceLT, Nat.reduceLeDiff, nI_add, upM_s, upI_s, pk_mul, nf_at, v2, aGreedy]
    · simp only [k142_77, k142_78, k142_81, k142_82, k142_85, k142_88, k142_89, k142_90, k142_93, k142_94, k142_97, k142_100, k142_101, k142_102, k142_105, k142_106, k142_109, k142_112, k142_113, k142_116, k142_117, k142_120, k142_122, k142_123, k142_126, k142_127, k142_130, k142_131, im_t106 hm, im_t107 hm, im_t108 hm, im_t109 hm, im_t110 hm, im_t111 hm, im_t112 hm, im_t113 hm, im_t114 hm, im_t115 hm, im_t116 hm, im_l107 hm, im_l108 hm, im_l109 hm, im_l110 hm, im_l111 hm, im_l112 hm, im_l113 hm, im_l114 hm, im_l115 hm, im_l116 hm, im_r0 hm, im_r1 hm, im_r2 hm, im_r3 hm, im_r5 hm, im_r7 hm, im_r14 hm, im_r15 hm, im_r16 hm, im_r22 hm, rf_s, pushR_s, pushR_n, le4_0, le4_1, le4_2, le4_3, le4_4, isLong_n, isLong_i, isLong_r, isLong_f, if_true, if_false, not_true_eq_false, not_false_eq_true, isI_0, isI_9, isAr_0, isAr_1, isAr_2, isAr_9, okR_i, okR_0, okR_1, putI_0, putI_b0, putI_b1, nI_10, nI_00, Nat.reduceLT, Nat.reduceLeDiff, nI_add, upM_s, upI_s, pk_mul, nf_at, v3, aGreedy, Nat.reduceEqDiff]
    · have z2 : ¬ nI 2 = 0 := by decide
      by_cases c7 : hr (gW s) = s 7
      · have e7 : nI (hr (gW s)) = nI (s 7) := by rw [c7]
        simp only [k142_77, k142_78, k142_81, k142_82, k142_85, k142_88, k142_89, k142_90, k142_93, k142_94, k142_97, k142_100, k142_101, k142_102, k142_105, k142_106, k142_109, k142_112, k142_113, k142_116, k142_117, k142_120, k142_122, k142_123, k142_126, k142_127, k142_130, k142_131, im_t106 hm, im_t107 hm, im_t108 hm, im_t109 hm, im_t110 hm, im_t111 hm, im_t112 hm, im_t113 hm, im_t114 hm, im_t115 hm, im_t116 hm, im_l107 hm, im_l108 hm, im_l109 hm, im_l110 hm, im_l111 hm, im_l112 hm, im_l113 hm, im_l114 hm, im_l115 hm, im_l116 hm, im_r0 hm, im_r1 hm, im_r2 hm, im_r3 hm, im_r5 hm, im_r7 hm, im_r14 hm, im_r15 hm, im_r16 hm, im_r22 hm, rf_s, pushR_s, pushR_n, le4_0, le4_1, le4_2, le4_3, le4_4, isLong_n, isLong_i, isLong_r, isLong_f, if_true, if_false, not_true_eq_false, not_false_eq_true, isI_0, isI_9, isAr_0, isAr_1, isAr_2, isAr_9, okR_i, okR_0, okR_1, putI_0, putI_b0, putI_b1, nI_10, nI_00, Nat.reduceLT, Nat.reduceLeDiff, nI_add, upM_s, upI_s, pk_mul, nf_at, v1, hs2, aGreedy, Nat.reduceEqDiff, nI_lit, z2, e7, c7]
      · have e7 : ¬ nI (hr (gW s)) = nI (s 7) := ne_n (by omega) (by omega) c7
        simp only [k142_77, k142_78, k142_81, k142_82, k142_85, k142_88, k142_89, k142_90, k142_93, k142_94, k142_97, k142_100, k142_101, k142_102, k142_105, k142_106, k142_109, k142_112, k142_113, k142_116, k142_117, k142_120, k142_122, k142_123, k142_126, k142_127, k142_130, k142_131, im_t106 hm, im_t107 hm, im_t108 hm, im_t109 hm, im_t110 hm, im_t111 hm, im_t112 hm, im_t113 hm, im_t114 hm, im_t115 hm, im_t116 hm, im_l107 hm, im_l108 hm, im_l109 hm, im_l110 hm, im_l111 hm, im_l112 hm, im_l113 hm, im_l114 hm, im_l115 hm, im_l116 hm, im_r0 hm, im_r1 hm, im_r2 hm, im_r3 hm, im_r5 hm, im_r7 hm, im_r14 hm, im_r15 hm, im_r16 hm, im_r22 hm, rf_s, pushR_s, pushR_n, le4_0, le4_1, le4_2, le4_3, le4_4, isLong_n, isLong_i, isLong_r, isLong_f, if_true, if_false, not_true_eq_false, not_false_eq_true, isI_0, isI_9, isAr_0, isAr_1, isAr_2, isAr_9, okR_i, okR_0, okR_1, putI_0, putI_b0, putI_b1, nI_10, nI_00, Nat.reduceLT, Nat.reduceLeDiff, nI_add, upM_s, upI_s, pk_mul, nf_at, v1, hs2, aGreedy, Nat.reduceEqDiff, nI_lit, z2, e7, c7]
    · have z2 : ¬ nI 3 = 0 := by decide
      simp only [k142_77, k142_78, k142_81, k142_82, k142_85, k142_88, k142_89, k142_90, k142_93, k142_94, k142_97, k142_100, k142_101, k142_102, k142_105, k142_106, k142_109, k142_112, k142_113, k142_116, k142_117, k142_120, k142_122, k142_123, k142_126, k142_127, k142_130, k142_131, im_t106 hm, im_t107 hm, im_t108 hm, im_t109 hm, im_t110 hm, im_t111 hm, im_t112 hm, im_t113 hm, im_t114 hm, im_t115 hm, im_t116 hm, im_l107 hm, im_l108 hm, im_l109 hm, im_l110 hm, im_l111 hm, im_l112 hm, im_l113 hm, im_l114 hm, im_l115 hm, im_l116 hm, im_r0 hm, im_r1 hm, im_r2 hm, im_r3 hm, im_r5 hm, im_r7 hm, im_r14 hm, im_r15 hm, im_r16 hm, im_r22 hm, rf_s, pushR_s, pushR_n, le4_0, le4_1, le4_2, le4_3, le4_4, isLong_n, isLong_i, isLong_r, isLong_f, if_true, if_false, not_true_eq_false, not_false_eq_true, isI_0, isI_9, isAr_0, isAr_1, isAr_2, isAr_9, okR_i, okR_0, okR_1, putI_0, putI_b0, putI_b1, nI_10, nI_00, Nat.reduceLT, Nat.reduceLeDiff, nI_add, upM_s, upI_s, pk_mul, nf_at, v1, aGreedy, Nat.reduceEqDiff, nI_lit, z2]
  · refine ⟨M, fun Q => ?_, fun _ _ _ => rfl, fun _ _ => rfl⟩
    have il := inI_q (n := 3) (by omega) h
    rw [e4]
    simp only [k142_0, k142_1, k142_2, k142_3, k142_6, k142_9, k142_11, k142_12, k142_13, k142_16, k142_17, k142_18, k142_19, k142_22, k142_24, im_t106 hm, im_t107 hm, im_t108 hm, im_t109 hm, im_t110 hm, im_t111 hm, im_t112 hm, im_t113 hm, im_t114 hm, im_t115 hm, im_t116 hm, im_l107 hm, im_l108 hm, im_l109 hm, im_l110 hm, im_l111 hm, im_l112 hm, im_l113 hm, im_l114 hm, im_l115 hm, im_l116 hm, im_r0 hm, im_r1 hm, im_r2 hm, im_r3 hm, im_r5 hm, im_r7 hm, im_r14 hm, im_r15 hm, im_r16 hm, im_r22 hm, rf_s, pushR_s, pushR_n, le4_0, le4_1, le4_2, le4_3, le4_4, isLong_n, isLong_i, isLong_r, isLong_f, if_true, if_false, not_true_eq_false, not_false_eq_true, isI_0, isI_9, isAr_0, isAr_1, isAr_2, isAr_9, okR_i, okR_0, okR_1, putI_0, putI_b0, putI_b1, nI_10, nI_00, Nat.reduceLT, Nat.reduceLeDiff, nI_add, upM_s, upI_s, pk_mul, nf_at, m95, il]
