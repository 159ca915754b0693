theorem m118A {σ : Sg} {M : Mem} (hm : IsM σ) {s : Nat → Nat} (hs : M 107 = nf s) (i : Inv s) (h2 : 2 ≤ s 0) : ∀ n, n ≤ s 13 → ∃ (M' : Mem) (fs fl : Nat → Nat) (f : Nat), (∀ Q, wp 118 4 [some (.ref 106), some (.int (nI 0)), some (.int (nI 0)), none] [] σ M Q = wp 118 4 [some (.ref 106), some (.int (nI f)), some (.int (nI n)), none] [] σ M' Q) ∧ M' 107 = nf (lapA s n) ∧ f ≤ n ∧ (∀ j, j < f → M' 114 j = nI (fs j) ∧ M' 115 j = nI (fl j) ∧ fs j < 2 ^ 16 ∧ 0 < fl j ∧ fl j < 1000) ∧ (∀ k, sumTo (fun j => if bit (fs j) k = 1 then s 15 / fl j else 0) f = lapL s k n) ∧ (∀ o, o ≠ 106 → o ≠ 107 → o ≠ 113 → o ≠ 114 → o ≠ 115 → M' o = M o) ∧ (∀ i, i < 8 ∨ 13 < i → M' 106 i = M 106 i)
  | 0, _ => ⟨M, fun _ => 0, fun _ => 0, 0, fun _ => rfl, hs, Nat.le_refl _, fun j h => absurd h (Nat.not_lt_zero _), fun _ => rfl, fun _ _ _ _ _ _ => rfl, fun _ _ => rfl⟩
  | n + 1, hn => by
    obtain ⟨M1, fs, fl, f, a1, a2, a3, a4, a5, a6, a7⟩ := m118A hm hs i h2 n (by omega)
    obtain ⟨ia, ka⟩ := lapA_ok i h2 n
    have i2 := i.2.1
    unfold sOk at i2
    have h2' : 2 ≤ lapA s n 0 := by rw [ka.1.1]; exact h2
    have ia2 := ia.2.1
    unfold sOk at ia2
    obtain ⟨w1, w2, w3, w4⟩ := wlk_ok ia h2'
    obtain ⟨M2, b1, b2, b3, b4, b5, b6⟩ := m115 hm a2 ia.1 (by omega) ia.2.2.1.2.1 (by omega) ia.2.2.2.1
    have e13 : lapA s n 13 = s 13 := ka.2.2.2 13 (by omega) (by omega)
    have e : nI n < nI (s 13) := nI_lt (by omega) (by omega)
    have b2' := b2
    obtain ⟨v1, v2, v3, v4, v5, v6⟩ := b2'
    obtain ⟨k1, k2, k3⟩ := antS_kp ia h2'
    by_cases c : (wlk (lapA s n)).2.2 = 0
    · have hst : lapA s (n + 1) = bst (antS (lapA s n)) (wlk (lapA s n)).2.1 := if_pos c
      have hw := w4 c
      have f7 := ia.2.2.1.1
      have pos : 0 < (wlk (lapA s n)).2.1.1 ∧ (wlk (lapA s n)).2.1.1 ≤ 180 := by
        obtain ⟨j1, j2, j3, j4, j5, j6, j7, j8, j9, j10⟩ := w2
        have m0 : (wlk (lapA s n)).2.1.2.1 ≠ 0 := fun e => by
          unfold hr at hw
          rw [e, j2] at hw
          omega
        omega
      have hset := w2.2.2.2.1
      have hmany := w2.1
      rw [c] at b4
      generalize hW : (wlk (lapA s n)).2.1 = W at *
      have hf5 : f < 5 := by omega
      have r3 : RV (upM (upM M2 114 (upI (M2 114) f (nI W.2.2.1))) 115 (upI (M2 115) f (nI W.1))) W := RV_fr b2 rfl rfl
      have q3 : (upM (upM M2 114 (upI (M2 114) f (nI W.2.2.1))) 115 (upI (M2 115) f (nI W.1))) 107 = nf (antS (lapA s n)) := b3
      have m7 := fun Q => m117 (Q := Q) hm q3 r3 hmany
      have u1 : ∀ (g : Nat → Int32), upM M2 114 g 106 = M2 106 := fun g => rfl
      have u2 : ∀ (g : Nat → Int32), upM M2 114 g 115 = M2 115 := fun g => rfl
      have u3 : ∀ (h g : Nat → Int32), upM (upM M2 114 h) 115 g 106 = M2 106 := fun h g => rfl
      have u4 : ∀ (h g : Nat → Int32), upM (upM M2 114 h) 115 g 107 = M2 107 := fun h g => rfl
      have newf : ∀ N : Mem, N 114 = upI (M2 114) f (nI W.2.2.1) → N 115 = upI (M2 115) f (nI W.1) → ∀ j, j < f + 1 → N 114 j = nI (upN fs f W.2.2.1 j) ∧ N 115 j = nI (upN fl f W.1 j) ∧ upN fs f W.2.2.1 j < 2 ^ 16 ∧ 0 < upN fl f W.1 j ∧ upN fl f W.1 j < 1000 := fun N h1 h2 j hj => by
        rw [h1, h2]
        by_cases cj : j = f
        · subst cj
          rw [upI_s, upI_s, upN_s, upN_s]
          exact ⟨rfl, rfl, hset, pos.1, by omega⟩
        · rw [upI_n cj, upI_n cj, upN_n cj, upN_n cj, b5 114 (by decide) (by decide) (by decide), b5 115 (by decide) (by decide) (by decide)]
          exact a4 j (by omega)
      have newl : ∀ k, sumTo (fun j => if bit (upN fs f W.2.2.1 j) k = 1 then s 15 / upN fl f W.1 j else 0) (f + 1) = lapL s k (n + 1) := fun k => by
        show sumTo _ f + (if bit (upN fs f W.2.2.1 f) k = 1 then s 15 / upN fl f W.1 f else 0) = lapL s k n + _
        rw [hW, ← a5 k, upN_s, upN_s]
        refine congr (congrArg _ ?_) ?_
        · exact sumTo_congr (fun j hj => by rw [upN_n (by omega), upN_n (by omega)])
        · by_cases cb : bit W.2.2.1 k = 1
          · rw [if_pos cb, if_pos ⟨c, cb⟩]
          · rw [if_neg cb, if_neg (fun h => cb h.2)]
      have h9 : antS (lapA s n) 9 ≤ 180 := by
        rw [k3 9 (by omega) (by omega)]
        by_cases c0 : lapA s n 9 = 0
        · omega
        · exact (ia.2.2.2.2 c0).2.2.2.1
      by_cases cb : antS (lapA s n) 9 = 0 ∨ W.1 < antS (lapA s n) 9
      · have hst2 : lapA s (n + 1) = isb (antS (lapA s n)) W (W.2.1 + 1) := by rw [hst]; exact if_pos cb
        refine ⟨upM (upM (upM M2 114 (upI (M2 114) f (nI W.2.2.1))) 115 (upI (M2 115) f (nI W.1))) 107 (nf (isb (antS (lapA s n)) W (W.2.1 + 1))), upN fs f W.2.2.1, upN fl f W.1, f + 1, fun Q => ?_, by rw [hst2]; exact upM_s, by omega, newf _ rfl rfl, newl, ?_, ?_⟩
        · rw [a1, k118_4]
          by_cases c0 : antS (lapA s n) 9 = 0
          · simp only [k118_5, k118_6, k118_9, k118_11, k118_12, k118_15, k118_16, k118_19, k118_20, k118_23, k118_26, k118_27, k118_30, k118_31, k118_32, k118_35, k118_36, k118_37, k118_40, k118_41, k118_42, k118_45, k118_46, k118_49, k118_50, k118_53, k118_55, k118_56, k118_59, k118_60, k118_63, k118_64, k118_67, k118_69, k118_70, k118_73, k118_74, k118_77, k118_80, im_t106 hm, im_t107 hm, im_t108 hm, im_t109 hm, im_t110 hm, im_t111 hm, im_t112 hm, im_t113 hm, im_t114 hm, im_t115 hm, im_t116 hm, im_l107 hm, im_l108 hm, im_l109 hm, im_l110 hm, im_l111 hm, im_l112 hm, im_l113 hm, im_l114 hm, im_l115 hm, im_l116 hm, im_r0 hm, im_r1 hm, im_r2 hm, im_r3 hm, im_r5 hm, im_r7 hm, im_r14 hm, im_r15 hm, im_r16 hm, im_r22 hm, rf_s, pushR_s, pushR_n, le4_0, le4_1, le4_2, le4_3, le4_4, isLong_n, isLong_i, isLong_r, isLong_f, if_true, if_false, not_true_eq_false, not_false_eq_true, isI_0, isI_9, isAr_0, isAr_1, isAr_2, isAr_9, okR_i, okR_0, okR_1, putI_0, putI_b0, putI_b1, nI_10, nI_00, Nat.reduceLT, Nat.reduceLeDiff, nI_add, upM_s, upI_s, pk_mul, nf_at, a2, e13, e, b1, b4, v4, v2, u1, u2, u3, u4, b3, hf5, c0, m7]
          · have e9 : ¬ nI (antS (lapA s n) 9) = 0 := nI_ne0 (by omega) (by omega)
            have e10 : nI W.1 < nI (antS (lapA s n) 9) := nI_lt (by omega) (by omega)
            simp only [k118_5, k118_6, k118_9, k118_11, k118_12, k118_15, k118_16, k118_19, k118_20, k118_23, k118_26, k118_27, k118_30, k118_31, k118_32, k118_35, k118_36, k118_37, k118_40, k118_41, k118_42, k118_45, k118_46, k118_49, k118_50, k118_53, k118_55, k118_56, k118_59, k118_60, k118_63, k118_64, k118_67, k118_69, k118_70, k118_73, k118_74, k118_77, k118_80, im_t106 hm, im_t107 hm, im_t108 hm, im_t109 hm, im_t110 hm, im_t111 hm, im_t112 hm, im_t113 hm, im_t114 hm, im_t115 hm, im_t116 hm, im_l107 hm, im_l108 hm, im_l109 hm, im_l110 hm, im_l111 hm, im_l112 hm, im_l113 hm, im_l114 hm, im_l115 hm, im_l116 hm, im_r0 hm, im_r1 hm, im_r2 hm, im_r3 hm, im_r5 hm, im_r7 hm, im_r14 hm, im_r15 hm, im_r16 hm, im_r22 hm, rf_s, pushR_s, pushR_n, le4_0, le4_1, le4_2, le4_3, le4_4, isLong_n, isLong_i, isLong_r, isLong_f, if_true, if_false, not_true_eq_false, not_false_eq_true, isI_0, isI_9, isAr_0, isAr_1, isAr_2, isAr_9, okR_i, okR_0, okR_1, putI_0, putI_b0, putI_b1, nI_10, nI_00, Nat.reduceLT, Nat.reduceLeDiff, nI_add, upM_s, upI_s, pk_mul, nf_at, a2, e13, e, b1, b4, v4, v2, u1, u2, u3, u4, b3, hf5, e9, e10, m7]
        · intro o h1 h2 h3 h4 h5
          rw [upM_n h2, upM_n h5, upM_n h4, b5 o h1 h2 h3, a6 o h1 h2 h3 h4 h5]
        · intro j hj
          rw [upM_n (by decide), upM_n (by decide), upM_n (by decide), b6 j hj, a7 j hj]
      · have hst2 : lapA s (n + 1) = antS (lapA s n) := by rw [hst]; exact if_neg cb
        refine ⟨upM (upM M2 114 (upI (M2 114) f (nI W.2.2.1))) 115 (upI (M2 115) f (nI W.1)), upN fs f W.2.2.1, upN fl f W.1, f + 1, fun Q => ?_, by rw [hst2]; exact q3, by omega, newf _ rfl rfl, newl, ?_, ?_⟩
        · rw [a1, k118_4]
          have e9 : ¬ nI (antS (lapA s n) 9) = 0 := nI_ne0 (by omega) (by omega)
          have e10 : ¬ nI W.1 < nI (antS (lapA s n) 9) := nI_nlt (by omega) (by omega)
          simp only [k118_5, k118_6, k118_9, k118_11, k118_12, k118_15, k118_16, k118_19, k118_20, k118_23, k118_26, k118_27, k118_30, k118_31, k118_32, k118_35, k118_36, k118_37, k118_40, k118_41, k118_42, k118_45, k118_46, k118_49, k118_50, k118_53, k118_55, k118_56, k118_59, k118_60, k118_63, k118_64, k118_67, k118_69, k118_70, k118_73, k118_74, k118_77, k118_80, im_t106 hm, im_t107 hm, im_t108 hm, im_t109 hm, im_t110 hm, im_t111 hm, im_t112 hm, im_t113 hm, im_t114 hm, im_t115 hm, im_t116 hm, im_l107 hm, im_l108 hm, im_l109 hm, im_l110 hm, im_l111 hm, im_l112 hm, im_l113 hm, im_l114 hm, im_l115 hm, im_l116 hm, im_r0 hm, im_r1 hm, im_r2 hm, im_r3 hm, im_r5 hm, im_r7 hm, im_r14 hm, im_r15 hm, im_r16 hm, im_r22 hm, rf_s, pushR_s, pushR_n, le4_0, le4_1, le4_2, le4_3, le4_4, isLong_n, isLong_i, isLong_r, isLong_f, if_true, if_false, not_true_eq_false, not_false_eq_true, isI_0, isI_9, isAr_0, isAr_1, isAr_2, isAr_9, okR_i, okR_0, okR_1, putI_0, putI_b0, putI_b1, nI_10, nI_00, Nat.reduceLT, Nat.reduceLeDiff, nI_add, upM_s, upI_s, pk_mul, nf_at, a2, e13, e, b1, b4, v4, v2, u1, u2, u3, u4, b3, hf5, e9, e10]
        · intro o h1 h2 h3 h4 h5
          rw [upM_n h5, upM_n h4, b5 o h1 h2 h3, a6 o h1 h2 h3 h4 h5]
        · intro j hj
          rw [upM_n (by decide), upM_n (by decide), b6 j hj, a7 j hj]
    · have hst : lapA s (n + 1) = antS (lapA s n) := if_neg c
      have c' : ¬ nI (wlk (lapA s n)).2.2 = 0 := nI_ne0 (by omega) (by omega)
      refine ⟨M2, fs, fl, f, fun Q => ?_, by rw [hst]; exact b3, by omega, fun j hj => ?_, fun k => ?_, ?_, ?_⟩
      · rw [a1, k118_4]
        simp only [k118_5, k118_6, k118_9, k118_11, k118_12, k118_15, k118_16, k118_19, k118_20, k118_23, k118_26, k118_27, k118_30, k118_31, k118_32, k118_35, k118_36, k118_37, k118_40, k118_41, k118_42, k118_45, k118_46, k118_49, k118_50, k118_53, k118_55, k118_56, k118_59, k118_60, k118_63, k118_64, k118_67, k118_69, k118_70, k118_73, k118_74, k118_77, k118_80, im_t106 hm, im_t107 hm, im_t108 hm, im_t109 hm, im_t110 hm, im_t111 hm, im_t112 hm, im_t113 hm, im_t114 hm, im_t115 hm, im_t116 hm, im_l107 hm, im_l108 hm, im_l109 hm, im_l110 hm, im_l111 hm, im_l112 hm, im_l113 hm, im_l114 hm, im_l115 hm, im_l116 hm, im_r0 hm, im_r1 hm, im_r2 hm, im_r3 hm, im_r5 hm, im_r7 hm, im_r14 hm, im_r15 hm, im_r16 hm, im_r22 hm, rf_s, pushR_s, pushR_n, le4_0, le4_1, le4_2, le4_3, le4_4, isLong_n, isLong_i, isLong_r, isLong_f, if_true, if_false, not_true_eq_false, not_false_eq_true, isI_0, isI_9, isAr_0, isAr_1, isAr_2, isAr_9, okR_i, okR_0, okR_1, putI_0, putI_b0, putI_b1, nI_10, nI_00, Nat.reduceLT, Nat.reduceLeDiff, nI_add, upM_s, upI_s, pk_mul, nf_at, a2, e13, e, b1, b4, c']
      · rw [b5 114 (by decide) (by decide) (by decide), b5 115 (by decide) (by decide) (by decide)]
        exact a4 j hj
      · rw [a5 k]
        show _ = lapL s k n + _
        rw [if_neg (fun h => c h.1)]
        rfl
      · intro o h1 h2 h3 h4 h5
        rw [b5 o h1 h2 h3, a6 o h1 h2 h3 h4 h5]
      · intro j hj
        rw [b6 j hj, a7 j hj]
