/-- the trails of the first n paths made anew -/
def mapT (s : Nat → Nat) (n : Nat) (f : Nat → Nat) : Nat → Nat := fun j => if 30 ≤ j ∧ j < 30 + 6 * n ∧ j % 6 = 3 then f ((j - 30) / 6) else s j
theorem mapT_0 {s f : Nat → Nat} : mapT s 0 f = s := by
  funext j
  unfold mapT
  rw [if_neg (by omega)]
theorem mapT_lo {s f : Nat → Nat} {n j : Nat} (h : j < 30) : mapT s n f j = s j := by
  unfold mapT
  rw [if_neg (by omega)]
theorem mapT_3 {s f : Nat → Nat} {n k : Nat} (h : k < n) : mapT s n f (30 + 6 * k + 3) = f k := by
  unfold mapT
  rw [if_pos (by omega), show (30 + 6 * k + 3 - 30) / 6 = k by omega]
theorem mapT_3n {s f : Nat → Nat} {n k : Nat} (h : n ≤ k) : mapT s n f (30 + 6 * k + 3) = s (30 + 6 * k + 3) := by
  unfold mapT
  rw [if_neg (by omega)]
theorem mapT_w {s f : Nat → Nat} {n k w : Nat} (h : w ≠ 3) (h2 : w < 6) : mapT s n f (30 + 6 * k + w) = s (30 + 6 * k + w) := by
  unfold mapT
  rw [if_neg (by omega)]
theorem mapT_up {s f : Nat → Nat} {n : Nat} : upN (mapT s n f) (30 + 6 * n + 3) (f n) = mapT s (n + 1) f := by
  funext j
  by_cases c : j = 30 + 6 * n + 3
  · subst c
    rw [upN_s, mapT_3 (by omega)]
  · rw [upN_n c]
    unfold mapT
    by_cases c2 : 30 ≤ j ∧ j < 30 + 6 * n ∧ j % 6 = 3
    · rw [if_pos c2, if_pos (by omega)]
    · rw [if_neg c2, if_neg (by omega)]
theorem mapT_mapT {s f g : Nat → Nat} {n : Nat} : mapT (mapT s n f) n g = mapT s n g := by
  funext j
  unfold mapT
  by_cases c2 : 30 ≤ j ∧ j < 30 + 6 * n ∧ j % 6 = 3
  · rw [if_pos c2, if_pos c2]
  · rw [if_neg c2, if_neg c2, if_neg c2]
theorem mapT_congr {s f g : Nat → Nat} {n : Nat} (h : ∀ k, k < n → f k = g k) : mapT s n f = mapT s n g := by
  funext j
  unfold mapT
  by_cases c2 : 30 ≤ j ∧ j < 30 + 6 * n ∧ j % 6 = 3
  · rw [if_pos c2, if_pos c2, h _ (by omega)]
  · rw [if_neg c2, if_neg c2]
/-- a loop over the paths that makes their trails anew -/
theorem m116 {σ : Sg} {M : Mem} (hm : IsM σ) {s : Nat → Nat} (hs : M 107 = nf s) (g1 : s 1 ≤ 16) {a y : Nat} (ha : a < 2 ^ 16) (Q : Po) : wp 116 0 [some (.ref 106), some (.int (nI a)), some (.int (nI y)), none] [] σ M Q = Q none σ (upM M 107 (nf (mapT s (s 1) (fun k => s (30 + 6 * k + 3) + (if bit a k = 1 then y else 0))))) := by
  generalize hf : (fun k => s (30 + 6 * k + 3) + (if bit a k = 1 then y else 0)) = f
  have hM : M = upM M 107 (nf (mapT s 0 f)) := by rw [mapT_0, ← hs]; exact (upM_self rfl).symm
  simp only [k116_0, k116_1, rf_s, pushR_s, pushR_n, le4_0, le4_1, le4_2, le4_3, le4_4, isLong_n, isLong_i, isLong_r, isLong_f, if_true, if_false, not_true_eq_false, not_false_eq_true, isI_0, isI_9, isAr_0, isAr_1, isAr_2, isAr_9, okR_i, okR_0, okR_1, putI_0, putI_b0, putI_b1, nI_10, nI_00, Nat.reduceLT, Nat.reduceLeDiff, nI_add, upM_s, upI_s, pk_mul, nf_at]
  rw [show wp 116 2 [some (.ref 106), some (.int (nI a)), some (.int (nI y)), some (.int (nI 0))] [] σ M Q = wp 116 2 [some (.ref 106), some (.int (nI a)), some (.int (nI y)), some (.int (nI 0))] [] σ (upM M 107 (nf (mapT s 0 f))) Q from by rw [← hM]]
  refine (wp_up (n := s 1) (fun k => [some (.ref 106), some (.int (nI a)), some (.int (nI y)), some (.int (nI k))]) (fun k => upM M 107 (nf (mapT s k f))) Q (fun k hk => ?_)).trans ?_
  · have e : nI k < nI (s 1) := nI_lt hk (by omega)
    have m := fun Q => m102 (M := upM M 107 (nf (mapT s k f))) (Q := Q) hm (k := k) (w := 3) (by omega) (by omega)
    have m2 := fun x Q => m103 (M := upM M 107 (nf (mapT s k f))) (x := x) (Q := Q) hm (k := k) (w := 3) (by omega) (by omega)
    have hb := shr_bit (b := a) (t := k) (by omega) (by omega)
    have e1 : mapT s k f 1 = s 1 := mapT_lo (by decide)
    have e3 : mapT s k f (30 + 6 * k + 3) = s (30 + 6 * k + 3) := mapT_3n (Nat.le_refl _)
    have up := mapT_up (s := s) (f := f) (n := k)
    have fk : f k = s (30 + 6 * k + 3) + (if bit a k = 1 then y else 0) := by rw [← hf]
    have z : ¬ nI 0 = nI 1 := by decide
    rw [k116_2]
    rcases (show bit a k = 0 ∨ bit a k = 1 by have := @bit_lt a k; omega) with c | c
    · rw [c] at hb fk
      rw [fk] at up
      simp only [Nat.reduceEqDiff, if_false] at up
      simp only [k116_3, k116_4, k116_7, k116_8, k116_9, k116_12, k116_13, k116_14, k116_15, k116_16, k116_17, k116_18, k116_21, k116_22, k116_23, k116_24, k116_25, k116_26, k116_27, k116_30, k116_31, k116_34, k116_35, k116_36, k116_39, k116_42, im_t106 hm, im_t107 hm, im_t108 hm, im_t109 hm, im_t110 hm, im_t111 hm, im_t112 hm, im_t113 hm, im_t114 hm, im_t115 hm, im_t116 hm, im_l107 hm, im_l108 hm, im_l109 hm, im_l110 hm, im_l111 hm, im_l112 hm, im_l113 hm, im_l114 hm, im_l115 hm, im_l116 hm, im_r0 hm, im_r1 hm, im_r2 hm, im_r3 hm, im_r5 hm, im_r7 hm, im_r14 hm, im_r15 hm, im_r16 hm, im_r22 hm, rf_s, pushR_s, pushR_n, le4_0, le4_1, le4_2, le4_3, le4_4, isLong_n, isLong_i, isLong_r, isLong_f, if_true, if_false, not_true_eq_false, not_false_eq_true, isI_0, isI_9, isAr_0, isAr_1, isAr_2, isAr_9, okR_i, okR_0, okR_1, putI_0, putI_b0, putI_b1, nI_10, nI_00, Nat.reduceLT, Nat.reduceLeDiff, nI_add, upM_s, upI_s, pk_mul, nf_at, e1, e, m, m2, hb, z, e3, upI_nf, upM_up, up]
    · rw [c] at hb fk
      rw [fk] at up
      simp only [if_true] at up
      simp only [k116_3, k116_4, k116_7, k116_8, k116_9, k116_12, k116_13, k116_14, k116_15, k116_16, k116_17, k116_18, k116_21, k116_22, k116_23, k116_24, k116_25, k116_26, k116_27, k116_30, k116_31, k116_34, k116_35, k116_36, k116_39, k116_42, im_t106 hm, im_t107 hm, im_t108 hm, im_t109 hm, im_t110 hm, im_t111 hm, im_t112 hm, im_t113 hm, im_t114 hm, im_t115 hm, im_t116 hm, im_l107 hm, im_l108 hm, im_l109 hm, im_l110 hm, im_l111 hm, im_l112 hm, im_l113 hm, im_l114 hm, im_l115 hm, im_l116 hm, im_r0 hm, im_r1 hm, im_r2 hm, im_r3 hm, im_r5 hm, im_r7 hm, im_r14 hm, im_r15 hm, im_r16 hm, im_r22 hm, rf_s, pushR_s, pushR_n, le4_0, le4_1, le4_2, le4_3, le4_4, isLong_n, isLong_i, isLong_r, isLong_f, if_true, if_false, not_true_eq_false, not_false_eq_true, isI_0, isI_9, isAr_0, isAr_1, isAr_2, isAr_9, okR_i, okR_0, okR_1, putI_0, putI_b0, putI_b1, nI_10, nI_00, Nat.reduceLT, Nat.reduceLeDiff, nI_add, upM_s, upI_s, pk_mul, nf_at, e1, e, m, m2, hb, e3, upI_nf, upM_up, up]
  · have e : ¬ nI (s 1) < nI (s 1) := nI_nlt (Nat.le_refl _) (by omega)
    have e1 : mapT s (s 1) f 1 = s 1 := mapT_lo (by decide)
    rw [k116_2]
    simp only [k116_3, k116_4, k116_7, k116_8, k116_9, k116_12, k116_13, k116_14, k116_15, k116_16, k116_17, k116_18, k116_21, k116_22, k116_23, k116_24, k116_25, k116_26, k116_27, k116_30, k116_31, k116_34, k116_35, k116_36, k116_39, k116_42, k116_45, im_t106 hm, im_t107 hm, im_t108 hm, im_t109 hm, im_t110 hm, im_t111 hm, im_t112 hm, im_t113 hm, im_t114 hm, im_t115 hm, im_t116 hm, im_l107 hm, im_l108 hm, im_l109 hm, im_l110 hm, im_l111 hm, im_l112 hm, im_l113 hm, im_l114 hm, im_l115 hm, im_l116 hm, im_r0 hm, im_r1 hm, im_r2 hm, im_r3 hm, im_r5 hm, im_r7 hm, im_r14 hm, im_r15 hm, im_r16 hm, im_r22 hm, rf_s, pushR_s, pushR_n, le4_0, le4_1, le4_2, le4_3, le4_4, isLong_n, isLong_i, isLong_r, isLong_f, if_true, if_false, not_true_eq_false, not_false_eq_true, isI_0, isI_9, isAr_0, isAr_1, isAr_2, isAr_9, okR_i, okR_0, okR_1, putI_0, putI_b0, putI_b1, nI_10, nI_00, Nat.reduceLT, Nat.reduceLeDiff, nI_add, upM_s, upI_s, pk_mul, nf_at, e1, e]
/-- the best way so far, its first n places put down -/
def isb (s : Nat → Nat) (W : (Nat × Nat × Nat × Nat × (Nat → Nat))) (n : Nat) : Nat → Nat := fun j => if j = 9 then W.1 else if j = 10 then W.2.1 else if j = 11 then s 2 else if j = 12 then W.2.2.1 else if 20 ≤ j ∧ j < 20 + n then W.2.2.2.2 (j - 20) else s j
theorem isb_0 {s : Nat → Nat} {W : (Nat × Nat × Nat × Nat × (Nat → Nat))} : upN (upN (upN (upN s 9 W.1) 10 W.2.1) 11 (s 2)) 12 W.2.2.1 = isb s W 0 := by
  funext j
  unfold upN isb
  by_cases c1 : j = 12
  · subst c1; simp
  · by_cases c2 : j = 11
    · subst c2; simp
    · by_cases c3 : j = 10
      · subst c3; simp
      · by_cases c4 : j = 9
        · subst c4; simp
        · rw [if_neg c1, if_neg c2, if_neg c3, if_neg c4, if_neg c4, if_neg c3, if_neg c2, if_neg c1, if_neg (by omega)]
theorem isb_up {s : Nat → Nat} {W : (Nat × Nat × Nat × Nat × (Nat → Nat))} {n : Nat} : upN (isb s W n) (20 + n) (W.2.2.2.2 n) = isb s W (n + 1) := by
  funext j
  by_cases c : j = 20 + n
  · subst c
    rw [upN_s]
    unfold isb
    rw [if_neg (by omega), if_neg (by omega), if_neg (by omega), if_neg (by omega), if_pos (by omega), show 20 + n - 20 = n by omega]
  · rw [upN_n c]
    unfold isb
    by_cases c2 : 20 ≤ j ∧ j < 20 + n
    · rw [if_pos c2, if_pos (show 20 ≤ j ∧ j < 20 + (n + 1) by omega)]
    · rw [if_neg c2, if_neg (show ¬ (20 ≤ j ∧ j < 20 + (n + 1)) by omega)]
theorem m117 {σ : Sg} {M : Mem} (hm : IsM σ) {s : Nat → Nat} (hs : M 107 = nf s) {W : (Nat × Nat × Nat × Nat × (Nat → Nat))} (rv : RV M W) (hn : W.2.1 ≤ 9) (Q : Po) : wp 117 0 [some (.ref 106), none] [] σ M Q = Q none σ (upM M 107 (nf (isb s W (W.2.1 + 1)))) := by
  obtain ⟨v1, v2, v3, v4, v5, v6⟩ := rv
  have u1 : ∀ (f : Nat → Int32), upM M 107 f 106 = M 106 := fun f => rfl
  have u2 : ∀ (f : Nat → Int32), upM M 107 f 113 = M 113 := fun f => rfl
  have h0 : upN (upN (upN s 9 W.1) 10 W.2.1) 11 (s 2) = upN (upN (upN s 9 W.1) 10 W.2.1) 11 (s 2) := rfl
  simp only [k117_0, k117_1, k117_4, k117_6, k117_7, k117_10, k117_11, k117_12, k117_15, k117_17, k117_18, k117_21, k117_22, k117_23, k117_26, k117_28, k117_29, k117_32, k117_33, k117_34, k117_35, k117_36, k117_39, k117_41, k117_42, k117_45, k117_46, k117_47, im_t106 hm, im_t107 hm, im_t108 hm, im_t109 hm, im_t110 hm, im_t111 hm, im_t112 hm, im_t113 hm, im_t114 hm, im_t115 hm, im_t116 hm, im_l107 hm, im_l108 hm, im_l109 hm, im_l110 hm, im_l111 hm, im_l112 hm, im_l113 hm, im_l114 hm, im_l115 hm, im_l116 hm, im_r0 hm, im_r1 hm, im_r2 hm, im_r3 hm, im_r5 hm, im_r7 hm, im_r14 hm, im_r15 hm, im_r16 hm, im_r22 hm, rf_s, pushR_s, pushR_n, le4_0, le4_1, le4_2, le4_3, le4_4, isLong_n, isLong_i, isLong_r, isLong_f, if_true, if_false, not_true_eq_false, not_false_eq_true, isI_0, isI_9, isAr_0, isAr_1, isAr_2, isAr_9, okR_i, okR_0, okR_1, putI_0, putI_b0, putI_b1, nI_10, nI_00, Nat.reduceLT, Nat.reduceLeDiff, nI_add, upM_s, upI_s, pk_mul, nf_at, upI_n, upM_n, ne_eq, Nat.reduceEqDiff, hs, v2, v3, v4, upI_nf, upM_up, u1, upN_n, isb_0]
  refine (wp_up (n := W.2.1 + 1) (fun k => [some (.ref 106), some (.int (nI k))]) (fun k => upM M 107 (nf (isb s W k))) Q (fun k hk => ?_)).trans ?_
  · have e : nI k ≤ nI W.2.1 := nI_le (by omega) (by omega)
    have e' : ¬ nI W.2.1 < nI k := nI_nlt (by omega) (by omega)
    have h1 : k < 10 := by omega
    have h2 : 20 + k < 146 := by omega
    have h6 := v6 k (by omega)
    rw [k117_48]
    simp only [k117_49, k117_50, k117_53, k117_56, k117_57, k117_60, k117_62, k117_63, k117_64, k117_65, k117_68, k117_69, k117_70, k117_71, k117_74, im_t106 hm, im_t107 hm, im_t108 hm, im_t109 hm, im_t110 hm, im_t111 hm, im_t112 hm, im_t113 hm, im_t114 hm, im_t115 hm, im_t116 hm, im_l107 hm, im_l108 hm, im_l109 hm, im_l110 hm, im_l111 hm, im_l112 hm, im_l113 hm, im_l114 hm, im_l115 hm, im_l116 hm, im_r0 hm, im_r1 hm, im_r2 hm, im_r3 hm, im_r5 hm, im_r7 hm, im_r14 hm, im_r15 hm, im_r16 hm, im_r22 hm, rf_s, pushR_s, pushR_n, le4_0, le4_1, le4_2, le4_3, le4_4, isLong_n, isLong_i, isLong_r, isLong_f, if_true, if_false, not_true_eq_false, not_false_eq_true, isI_0, isI_9, isAr_0, isAr_1, isAr_2, isAr_9, okR_i, okR_0, okR_1, putI_0, putI_b0, putI_b1, nI_10, nI_00, Nat.reduceLT, Nat.reduceLeDiff, nI_add, upM_s, upI_s, pk_mul, nf_at, u1, u2, v3, e, e', h1, h2, h6, upI_nf, upM_up, isb_up]
  · have e : ¬ nI (W.2.1 + 1) ≤ nI W.2.1 := nI_ge (by omega) (by omega)
    have e' : nI W.2.1 < nI (W.2.1 + 1) := nI_lt (by omega) (by omega)
    rw [k117_48]
    simp only [k117_49, k117_50, k117_53, k117_56, k117_57, k117_60, k117_62, k117_63, k117_64, k117_65, k117_68, k117_69, k117_70, k117_71, k117_74, k117_77, im_t106 hm, im_t107 hm, im_t108 hm, im_t109 hm, im_t110 hm, im_t111 hm, im_t112 hm, im_t113 hm, im_t114 hm, im_t115 hm, im_t116 hm, im_l107 hm, im_l108 hm, im_l109 hm, im_l110 hm, im_l111 hm, im_l112 hm, im_l113 hm, im_l114 hm, im_l115 hm, im_l116 hm, im_r0 hm, im_r1 hm, im_r2 hm, im_r3 hm, im_r5 hm, im_r7 hm, im_r14 hm, im_r15 hm, im_r16 hm, im_r22 hm, rf_s, pushR_s, pushR_n, le4_0, le4_1, le4_2, le4_3, le4_4, isLong_n, isLong_i, isLong_r, isLong_f, if_true, if_false, not_true_eq_false, not_false_eq_true, isI_0, isI_9, isAr_0, isAr_1, isAr_2, isAr_9, okR_i, okR_0, okR_1, putI_0, putI_b0, putI_b1, nI_10, nI_00, Nat.reduceLT, Nat.reduceLeDiff, nI_add, upM_s, upI_s, pk_mul, nf_at, u1, u2, v3, e, e']
