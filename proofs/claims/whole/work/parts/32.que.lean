/-! the reference's answers that change nothing -/
def gtr (s : Nat → Nat) (k o : Nat) : Nat := if s (30 + 6 * o + 3) < s (30 + 6 * k + 3) then 1 else if s (30 + 6 * k + 3) = s (30 + 6 * o + 3) ∧ s (30 + 6 * k + 2) < s (30 + 6 * o + 2) then 1 else 0
theorem m140 {σ : Sg} {M : Mem} (hm : IsM σ) {s : Nat → Nat} (hs : M 107 = nf s) (g : Gph s) {k o : Nat} (hk : k < s 1) (ho : o < s 1) (Q : Po) : wp 140 0 [some (.ref 106), some (.int (nI k)), some (.int (nI o)), none] [] σ M Q = Q (some (.int (nI (gtr s k o)))) σ M := by
  have g1 := g.2.1
  have pk := g.2.2 k hk
  have po := g.2.2 o ho
  unfold pOk at pk po
  have m := fun {k w : Nat} (h : k < 16) (h2 : w < 6) Q => m102 (M := M) (Q := Q) hm h h2
  have a3 := fun Q => m (k := k) (w := 3) (by omega) (by omega) Q
  have a2 := fun Q => m (k := k) (w := 2) (by omega) (by omega) Q
  have b3 := fun Q => m (k := o) (w := 3) (by omega) (by omega) Q
  have b2 := fun Q => m (k := o) (w := 2) (by omega) (by omega) Q
  by_cases c : s (30 + 6 * o + 3) < s (30 + 6 * k + 3)
  · have d := pk_sub (a := s (30 + 6 * k + 3)) (b := s (30 + 6 * o + 3)) (by omega)
    have z : ¬ nI (s (30 + 6 * k + 3) - s (30 + 6 * o + 3)) ≤ 0 := nI_nle (by omega) (by omega)
    have z2 : 0 < nI (s (30 + 6 * k + 3) - s (30 + 6 * o + 3)) := by rw [← nI_0]; exact nI_lt (by omega) (by omega)
    simp only [k140_0, k140_1, k140_2, k140_3, k140_6, k140_7, k140_8, k140_9, k140_12, k140_13, k140_14, k140_15, k140_18, k140_19, k140_22, k140_23, k140_24, k140_25, k140_28, k140_29, k140_30, k140_31, k140_34, k140_37, k140_38, k140_41, k140_42, im_t106 hm, im_t107 hm, im_t108 hm, im_t109 hm, im_t110 hm, im_t111 hm, im_t112 hm, im_t113 hm, im_t114 hm, im_t115 hm, im_t116 hm, im_l107 hm, im_l108 hm, im_l109 hm, im_l110 hm, im_l111 hm, im_l112 hm, im_l113 hm, im_l114 hm, im_l115 hm, im_l116 hm, im_r0 hm, im_r1 hm, im_r2 hm, im_r3 hm, im_r5 hm, im_r7 hm, im_r14 hm, im_r15 hm, im_r16 hm, im_r22 hm, rf_s, pushR_s, pushR_n, le4_0, le4_1, le4_2, le4_3, le4_4, isLong_n, isLong_i, isLong_r, isLong_f, if_true, if_false, not_true_eq_false, not_false_eq_true, isI_0, isI_9, isAr_0, isAr_1, isAr_2, isAr_9, okR_i, okR_0, okR_1, putI_0, putI_b0, putI_b1, nI_10, nI_00, Nat.reduceLT, Nat.reduceLeDiff, nI_add, upM_s, upI_s, pk_mul, nf_at, a3, b3, hs, d, z, z2, gtr, c]
  · by_cases c2 : s (30 + 6 * k + 3) = s (30 + 6 * o + 3)
    · have d := pk_sub (a := s (30 + 6 * o + 3)) (b := s (30 + 6 * o + 3)) (by omega)
      rw [Nat.sub_self] at d
      have z : nI 0 ≤ 0 := by decide
      have z2 : ¬ 0 < nI 0 := by decide
      by_cases c3 : s (30 + 6 * k + 2) < s (30 + 6 * o + 2)
      · have z3 : nI (s (30 + 6 * k + 2)) < nI (s (30 + 6 * o + 2)) := nI_lt c3 (by omega)
        have e : gtr s k o = 1 := by unfold gtr; rw [if_neg c, if_pos ⟨c2, c3⟩]
        rw [e]
        simp only [k140_0, k140_1, k140_2, k140_3, k140_6, k140_7, k140_8, k140_9, k140_12, k140_13, k140_14, k140_15, k140_18, k140_19, k140_22, k140_23, k140_24, k140_25, k140_28, k140_29, k140_30, k140_31, k140_34, k140_37, k140_38, k140_41, k140_42, im_t106 hm, im_t107 hm, im_t108 hm, im_t109 hm, im_t110 hm, im_t111 hm, im_t112 hm, im_t113 hm, im_t114 hm, im_t115 hm, im_t116 hm, im_l107 hm, im_l108 hm, im_l109 hm, im_l110 hm, im_l111 hm, im_l112 hm, im_l113 hm, im_l114 hm, im_l115 hm, im_l116 hm, im_r0 hm, im_r1 hm, im_r2 hm, im_r3 hm, im_r5 hm, im_r7 hm, im_r14 hm, im_r15 hm, im_r16 hm, im_r22 hm, rf_s, pushR_s, pushR_n, le4_0, le4_1, le4_2, le4_3, le4_4, isLong_n, isLong_i, isLong_r, isLong_f, if_true, if_false, not_true_eq_false, not_false_eq_true, isI_0, isI_9, isAr_0, isAr_1, isAr_2, isAr_9, okR_i, okR_0, okR_1, putI_0, putI_b0, putI_b1, nI_10, nI_00, Nat.reduceLT, Nat.reduceLeDiff, nI_add, upM_s, upI_s, pk_mul, nf_at, a3, b3, a2, b2, hs, c2, d, z, z2, z3]
      · have z3 : ¬ nI (s (30 + 6 * k + 2)) < nI (s (30 + 6 * o + 2)) := nI_nlt (by omega) (by omega)
        have e : gtr s k o = 0 := by unfold gtr; rw [if_neg c, if_neg (fun h => c3 h.2)]
        rw [e]
        simp only [k140_0, k140_1, k140_2, k140_3, k140_6, k140_7, k140_8, k140_9, k140_12, k140_13, k140_14, k140_15, k140_18, k140_19, k140_22, k140_23, k140_24, k140_25, k140_28, k140_29, k140_30, k140_31, k140_34, k140_37, k140_38, k140_41, k140_42, im_t106 hm, im_t107 hm, im_t108 hm, im_t109 hm, im_t110 hm, im_t111 hm, im_t112 hm, im_t113 hm, im_t114 hm, im_t115 hm, im_t116 hm, im_l107 hm, im_l108 hm, im_l109 hm, im_l110 hm, im_l111 hm, im_l112 hm, im_l113 hm, im_l114 hm, im_l115 hm, im_l116 hm, im_r0 hm, im_r1 hm, im_r2 hm, im_r3 hm, im_r5 hm, im_r7 hm, im_r14 hm, im_r15 hm, im_r16 hm, im_r22 hm, rf_s, pushR_s, pushR_n, le4_0, le4_1, le4_2, le4_3, le4_4, isLong_n, isLong_i, isLong_r, isLong_f, if_true, if_false, not_true_eq_false, not_false_eq_true, isI_0, isI_9, isAr_0, isAr_1, isAr_2, isAr_9, okR_i, okR_0, okR_1, putI_0, putI_b0, putI_b1, nI_10, nI_00, Nat.reduceLT, Nat.reduceLeDiff, nI_add, upM_s, upI_s, pk_mul, nf_at, a3, b3, a2, b2, hs, c2, d, z, z2, z3]
    · have lt : s (30 + 6 * k + 3) < s (30 + 6 * o + 3) := by omega
      have z : nI (s (30 + 6 * k + 3)) - nI (s (30 + 6 * o + 3)) < 0 := pk_sneg (by omega) lt
      have z1 : nI (s (30 + 6 * k + 3)) - nI (s (30 + 6 * o + 3)) ≤ 0 := Int32.le_iff_toInt_le.2 (Int.le_of_lt (Int32.lt_iff_toInt_lt.1 z))
      have z2 : ¬ 0 < nI (s (30 + 6 * k + 3)) - nI (s (30 + 6 * o + 3)) := fun h => by
        have := Int32.lt_iff_toInt_lt.1 h
        have := Int32.lt_iff_toInt_lt.1 z
        omega
      have z3 : ¬ nI (s (30 + 6 * k + 3)) - nI (s (30 + 6 * o + 3)) = 0 := fun h => by
        have := Int32.lt_iff_toInt_lt.1 z
        rw [h] at this
        omega
      have e : gtr s k o = 0 := by unfold gtr; rw [if_neg c, if_neg (fun h => c2 h.1)]
      rw [e]
      simp only [k140_0, k140_1, k140_2, k140_3, k140_6, k140_7, k140_8, k140_9, k140_12, k140_13, k140_14, k140_15, k140_18, k140_19, k140_22, k140_23, k140_24, k140_25, k140_28, k140_29, k140_30, k140_31, k140_34, k140_37, k140_38, k140_41, k140_42, im_t106 hm, im_t107 hm, im_t108 hm, im_t109 hm, im_t110 hm, im_t111 hm, im_t112 hm, im_t113 hm, im_t114 hm, im_t115 hm, im_t116 hm, im_l107 hm, im_l108 hm, im_l109 hm, im_l110 hm, im_l111 hm, im_l112 hm, im_l113 hm, im_l114 hm, im_l115 hm, im_l116 hm, im_r0 hm, im_r1 hm, im_r2 hm, im_r3 hm, im_r5 hm, im_r7 hm, im_r14 hm, im_r15 hm, im_r16 hm, im_r22 hm, rf_s, pushR_s, pushR_n, le4_0, le4_1, le4_2, le4_3, le4_4, isLong_n, isLong_i, isLong_r, isLong_f, if_true, if_false, not_true_eq_false, not_false_eq_true, isI_0, isI_9, isAr_0, isAr_1, isAr_2, isAr_9, okR_i, okR_0, okR_1, putI_0, putI_b0, putI_b1, nI_10, nI_00, Nat.reduceLT, Nat.reduceLeDiff, nI_add, upM_s, upI_s, pk_mul, nf_at, a3, b3, hs, z1, z2, z3]
def fI (n : Nat) : Int32 := if n = 16 then -1 else nI n
/-- the greatest path that can be taken, among the first n; 16 if there is none -/
def gp (s : Nat → Nat) (h b : Nat) : Nat → Nat
  | 0 => 16
  | k + 1 => if cg s h b k = 1 ∧ (gp s h b k = 16 ∨ gtr s k (gp s h b k) = 1) then k else gp s h b k
theorem gp_ok {s : Nat → Nat} {h b : Nat} : ∀ n, n ≤ 16 → gp s h b n = 16 ∨ gp s h b n < n ∧ cg s h b (gp s h b n) = 1
  | 0, _ => Or.inl rfl
  | k + 1, hk => by
    unfold gp
    by_cases c : cg s h b k = 1 ∧ (gp s h b k = 16 ∨ gtr s k (gp s h b k) = 1)
    · rw [if_pos c]; exact Or.inr ⟨by omega, c.1⟩
    · rw [if_neg c]
      rcases gp_ok k (by omega) with h1 | ⟨h1, h2⟩
      · exact Or.inl h1
      · exact Or.inr ⟨by omega, h2⟩
theorem gtr_le {s : Nat → Nat} {k o : Nat} : gtr s k o ≤ 1 := by
  unfold gtr
  split
  · exact Nat.le_refl _
  · split <;> omega
def lastB (f : Nat → Nat) : Nat → Option Value
  | 0 => none
  | k + 1 => some (.int (nI (f k)))
theorem m141 {σ : Sg} {M : Mem} (hm : IsM σ) {s : Nat → Nat} (hs : M 107 = nf s) (g : Gph s) {h b : Nat} (hh : h < 10) (hb : b < 1024) (r1 : M 106 8 = nI h) (r2 : M 106 12 = nI b) (Q : Po) : wp 141 0 [some (.ref 106), none, none, none] [] σ M Q = Q (some (.int (fI (gp s h b (s 1))))) σ M := by
  have g1 := g.2.1
  simp only [k141_0, k141_1, k141_2, k141_3, rf_s, pushR_s, pushR_n, le4_0, le4_1, le4_2, le4_3, le4_4, isLong_n, isLong_i, isLong_r, isLong_f, if_true, if_false, not_true_eq_false, not_false_eq_true, isI_0, isI_9, isAr_0, isAr_1, isAr_2, isAr_9, okR_i, okR_0, okR_1, putI_0, putI_b0, putI_b1, nI_10, nI_00, Nat.reduceLT, Nat.reduceLeDiff, nI_add, upM_s, upI_s, pk_mul, nf_at]
  refine (wp_up (n := s 1) (fun k => [some (.ref 106), some (.int (fI (gp s h b k))), some (.int (nI k)), lastB (fun k => if cg s h b k = 1 ∧ (gp s h b k = 16 ∨ gtr s k (gp s h b k) = 1) then 1 else 0) k]) (fun _ => M) Q (fun k hk => ?_)).trans ?_
  · have e : nI k < nI (s 1) := nI_lt hk (by omega)
    have m := fun Q => m112 (Q := Q) hm hs g hk hh hb r1 r2
    have hc := @cg_le s h b k
    have ok := gp_ok (s := s) (h := h) (b := b) k (by omega)
    have hk16 : ¬ k = 16 := by omega
    rw [k141_4]
    rcases (show cg s h b k = 0 ∨ cg s h b k = 1 by omega) with c | c
    · simp only [k141_5, k141_6, k141_9, k141_10, k141_11, k141_14, k141_15, k141_16, k141_19, k141_22, k141_23, k141_24, k141_27, k141_28, k141_29, k141_30, k141_33, k141_36, k141_37, k141_40, k141_41, k141_42, k141_43, k141_46, k141_47, k141_50, k141_51, k141_52, k141_55, im_t106 hm, im_t107 hm, im_t108 hm, im_t109 hm, im_t110 hm, im_t111 hm, im_t112 hm, im_t113 hm, im_t114 hm, im_t115 hm, im_t116 hm, im_l107 hm, im_l108 hm, im_l109 hm, im_l110 hm, im_l111 hm, im_l112 hm, im_l113 hm, im_l114 hm, im_l115 hm, im_l116 hm, im_r0 hm, im_r1 hm, im_r2 hm, im_r3 hm, im_r5 hm, im_r7 hm, im_r14 hm, im_r15 hm, im_r16 hm, im_r22 hm, rf_s, pushR_s, pushR_n, le4_0, le4_1, le4_2, le4_3, le4_4, isLong_n, isLong_i, isLong_r, isLong_f, if_true, if_false, not_true_eq_false, not_false_eq_true, isI_0, isI_9, isAr_0, isAr_1, isAr_2, isAr_9, okR_i, okR_0, okR_1, putI_0, putI_b0, putI_b1, nI_10, nI_00, Nat.reduceLT, Nat.reduceLeDiff, nI_add, upM_s, upI_s, pk_mul, nf_at, hs, e, m, c, gp, lastB, Nat.reduceEqDiff, false_and]
    · by_cases c2 : gp s h b k = 16
      · simp only [k141_5, k141_6, k141_9, k141_10, k141_11, k141_14, k141_15, k141_16, k141_19, k141_22, k141_23, k141_24, k141_27, k141_28, k141_29, k141_30, k141_33, k141_36, k141_37, k141_40, k141_41, k141_42, k141_43, k141_46, k141_47, k141_50, k141_51, k141_52, k141_55, im_t106 hm, im_t107 hm, im_t108 hm, im_t109 hm, im_t110 hm, im_t111 hm, im_t112 hm, im_t113 hm, im_t114 hm, im_t115 hm, im_t116 hm, im_l107 hm, im_l108 hm, im_l109 hm, im_l110 hm, im_l111 hm, im_l112 hm, im_l113 hm, im_l114 hm, im_l115 hm, im_l116 hm, im_r0 hm, im_r1 hm, im_r2 hm, im_r3 hm, im_r5 hm, im_r7 hm, im_r14 hm, im_r15 hm, im_r16 hm, im_r22 hm, rf_s, pushR_s, pushR_n, le4_0, le4_1, le4_2, le4_3, le4_4, isLong_n, isLong_i, isLong_r, isLong_f, if_true, if_false, not_true_eq_false, not_false_eq_true, isI_0, isI_9, isAr_0, isAr_1, isAr_2, isAr_9, okR_i, okR_0, okR_1, putI_0, putI_b0, putI_b1, nI_10, nI_00, Nat.reduceLT, Nat.reduceLeDiff, nI_add, upM_s, upI_s, pk_mul, nf_at, hs, e, m, c, gp, lastB, c2, fI, true_and, true_or, hk16]
      · have lt : gp s h b k < k := by rcases ok with h1 | h1; exact absurd h1 c2; exact h1.1
        have m2 := fun Q => m140 (Q := Q) hm hs g hk (o := gp s h b k) (by omega)
        have z : ¬ nI (gp s h b k) = -1 := ne_m1 (by omega)
        have hg := @gtr_le s k (gp s h b k)
        rcases (show gtr s k (gp s h b k) = 0 ∨ gtr s k (gp s h b k) = 1 by omega) with c3 | c3
        · simp only [k141_5, k141_6, k141_9, k141_10, k141_11, k141_14, k141_15, k141_16, k141_19, k141_22, k141_23, k141_24, k141_27, k141_28, k141_29, k141_30, k141_33, k141_36, k141_37, k141_40, k141_41, k141_42, k141_43, k141_46, k141_47, k141_50, k141_51, k141_52, k141_55, im_t106 hm, im_t107 hm, im_t108 hm, im_t109 hm, im_t110 hm, im_t111 hm, im_t112 hm, im_t113 hm, im_t114 hm, im_t115 hm, im_t116 hm, im_l107 hm, im_l108 hm, im_l109 hm, im_l110 hm, im_l111 hm, im_l112 hm, im_l113 hm, im_l114 hm, im_l115 hm, im_l116 hm, im_r0 hm, im_r1 hm, im_r2 hm, im_r3 hm, im_r5 hm, im_r7 hm, im_r14 hm, im_r15 hm, im_r16 hm, im_r22 hm, rf_s, pushR_s, pushR_n, le4_0, le4_1, le4_2, le4_3, le4_4, isLong_n, isLong_i, isLong_r, isLong_f, if_true, if_false, not_true_eq_false, not_false_eq_true, isI_0, isI_9, isAr_0, isAr_1, isAr_2, isAr_9, okR_i, okR_0, okR_1, putI_0, putI_b0, putI_b1, nI_10, nI_00, Nat.reduceLT, Nat.reduceLeDiff, nI_add, upM_s, upI_s, pk_mul, nf_at, hs, e, m, c, gp, lastB, c2, fI, true_and, false_or, m2, z, c3, hk16, Nat.reduceEqDiff]
        · simp only [k141_5, k141_6, k141_9, k141_10, k141_11, k141_14, k141_15, k141_16, k141_19, k141_22, k141_23, k141_24, k141_27, k141_28, k141_29, k141_30, k141_33, k141_36, k141_37, k141_40, k141_41, k141_42, k141_43, k141_46, k141_47, k141_50, k141_51, k141_52, k141_55, im_t106 hm, im_t107 hm, im_t108 hm, im_t109 hm, im_t110 hm, im_t111 hm, im_t112 hm, im_t113 hm, im_t114 hm, im_t115 hm, im_t116 hm, im_l107 hm, im_l108 hm, im_l109 hm, im_l110 hm, im_l111 hm, im_l112 hm, im_l113 hm, im_l114 hm, im_l115 hm, im_l116 hm, im_r0 hm, im_r1 hm, im_r2 hm, im_r3 hm, im_r5 hm, im_r7 hm, im_r14 hm, im_r15 hm, im_r16 hm, im_r22 hm, rf_s, pushR_s, pushR_n, le4_0, le4_1, le4_2, le4_3, le4_4, isLong_n, isLong_i, isLong_r, isLong_f, if_true, if_false, not_true_eq_false, not_false_eq_true, isI_0, isI_9, isAr_0, isAr_1, isAr_2, isAr_9, okR_i, okR_0, okR_1, putI_0, putI_b0, putI_b1, nI_10, nI_00, Nat.reduceLT, Nat.reduceLeDiff, nI_add, upM_s, upI_s, pk_mul, nf_at, hs, e, m, c, gp, lastB, c2, fI, true_and, false_or, m2, z, c3, hk16]
  · have e : ¬ nI (s 1) < nI (s 1) := nI_nlt (Nat.le_refl _) (by omega)
    rw [k141_4]
    simp only [k141_5, k141_6, k141_9, k141_10, k141_11, k141_58, k141_59, im_t106 hm, im_t107 hm, im_t108 hm, im_t109 hm, im_t110 hm, im_t111 hm, im_t112 hm, im_t113 hm, im_t114 hm, im_t115 hm, im_t116 hm, im_l107 hm, im_l108 hm, im_l109 hm, im_l110 hm, im_l111 hm, im_l112 hm, im_l113 hm, im_l114 hm, im_l115 hm, im_l116 hm, im_r0 hm, im_r1 hm, im_r2 hm, im_r3 hm, im_r5 hm, im_r7 hm, im_r14 hm, im_r15 hm, im_r16 hm, im_r22 hm, rf_s, pushR_s, pushR_n, le4_0, le4_1, le4_2, le4_3, le4_4, isLong_n, isLong_i, isLong_r, isLong_f, if_true, if_false, not_true_eq_false, not_false_eq_true, isI_0, isI_9, isAr_0, isAr_1, isAr_2, isAr_9, okR_i, okR_0, okR_1, putI_0, putI_b0, putI_b1, nI_10, nI_00, Nat.reduceLT, Nat.reduceLeDiff, nI_add, upM_s, upI_s, pk_mul, nf_at, hs, e]
