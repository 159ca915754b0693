theorem m118A {σ : Sg} {M : Mem} (hm : IsM σ) {s : Nat → Nat} (hs : M 107 = nf s) (i : Inv s) (h2 : 2 ≤ s 0) : ∀ n, n ≤ s 13 → ∃ (M' : Mem) (fs fl : Nat → Nat) (f : Nat), (∀ Q, wp 118 4 [some (.ref 106), some (.int (nI 0)), some (.int (nI 0)), none] [] σ M Q = wp 118 4 [some (.ref 106), some (.int (nI f)), some (.int (nI n)), none] [] σ M' Q) ∧ M' 107 = nf (lapA s n) ∧ f ≤ n ∧ (∀ j, j < f → M' 114 j = nI (fs j) ∧ M' 115 j = nI (fl j) ∧ fs j < 2 ^ 16 ∧ 0 < fl j ∧ fl j < 1000) ∧ (∀ k, sumTo (fun j => if bit (fs j) k = 1 then s 15 / fl j else 0) f = lapL s k n) ∧ (∀ o, o ≠ 106 → o ≠ 107 → o ≠ 113 → o ≠ 114 → o ≠ 115 → M' o = M o) ∧ (∀ i, i < 8 ∨ 13 < i → M' 106 i = M 106 i)
  | 0, _ => ⟨M, fun _ => 0, fun _ => 0, 0, fun _ => rfl, hs, Nat.le_refl _, fun j h => absurd h (Nat.not_lt_zero _), fun _ => rfl, fun _ _ _ _ _ _ => rfl, fun _ _ => rfl⟩
  | n + 1, hn => by
    obtain ⟨M1, fs, fl, f, a1, a2, a3, a4, a5, a6, a7⟩ := m118A hm hs i h2 n (by omega)
    obtain ⟨ia, ka⟩ := lapA_ok i h2 n
    have i2 := i.2.1
    unfold sOk at i2
    have h2' : 2 ≤ lapA s n 0 := by rw [ka.1.1]; exact h2
    have ia2 := ia.2.1
    unfold sOk at ia2
    obtain ⟨w1, w2, w3, w4⟩ := wlk_ok ia h2'
    obtain ⟨M2, b1, b2, b3, b4, b5, b6⟩ := m115 hm a2 ia.1 (by omega) ia.2.2.1.2.1 (by omega) ia.2.2.2.1
    have e13 : lapA s n 13 = s 13 := ka.2.2.2 13 (by omega) (by omega)
    have e : nI n < nI (s 13) := nI_lt (by omega) (by omega)
    have b2' := b2
    obtain ⟨v1, v2, v3, v4, v5, v6⟩ := b2'
    obtain ⟨k1, k2, k3⟩ := antS_kp ia h2'
    by_cases c : (wlk (lapA s n)).2.2 = 0
    · have hst : lapA s (n + 1) = bst (antS (lapA s n)) (wlk (lapA s n)).2.1 := if_pos c
      have hw := w4 c
      have f7 := ia.2.2.1.1
      have pos : 0 < (wlk (lapA s n)).2.1.1 ∧ (wlk (lapA s n)).2.1.1 ≤ 180 := by
        obtain ⟨j1, j2, j3, j4, j5, j6, j7, j8, j9, j10⟩ := w2
        have m0 : (wlk (lapA s n)).2.1.2.1 ≠ 0 := fun e => by
          unfold hr at hw
          rw [e, j2] at hw
          omega
        omega
      have hset := w2.2.2.2.1
      have hmany := w2.1
      rw [c] at b4
      generalize hW : (wlk (lapA s n)).2.1 = W at *
      have hf5 : f < 5 := by omega
      have r3 : RV (upM (upM M2 114 (upI (M2 114) f (nI W.2.2.1))) 115 (upI (M2 115) f (nI W.1))) W := RV_fr b2 rfl rfl
      have q3 : (upM (upM M2 114 (upI (M2 114) f (nI W.2.2.1))) 115 (upI (M2 115) f (nI W.1))) 107 = nf (antS (lapA s n)) := b3
      have m7 := fun Q => m117 (Q := Q) hm q3 r3 hmany
      have u1 : ∀ (g : Nat → Int32), upM M2 114 g 106 = M2 106 := fun g => rfl
      have u2 : ∀ (g : Nat → Int32), upM M2 114 g 115 = M2 115 := fun g => rfl
      have u3 : ∀ (h g : Nat → Int32), upM (upM M2 114 h) 115 g 106 = M2 106 := fun h g => rfl
      have u4 : ∀ (h g : Nat → Int32), upM (upM M2 114 h) 115 g 107 = M2 107 := fun h g => rfl
      have newf : ∀ N : Mem, N 114 = upI (M2 114) f (nI W.2.2.1) → N 115 = upI (M2 115) f (nI W.1) → ∀ j, j < f + 1 → N 114 j = nI (upN fs f W.2.2.1 j) ∧ N 115 j = nI (upN fl f W.1 j) ∧ upN fs f W.2.2.1 j < 2 ^ 16 ∧ 0 < upN fl f W.1 j ∧ upN fl f W.1 j < 1000 := fun N h1 h2 j hj => by
        rw [h1, h2]
        by_cases cj : j = f
        · subst cj
          rw [upI_s, upI_s, upN_s, upN_s]
          exact ⟨rfl, rfl, hset, pos.1, by omega⟩
        · rw [upI_n cj, upI_n cj, upN_n cj, upN_n cj, b5 114 (by decide) (by decide) (by decide), b5 115 (by decide) (by decide) (by decide)]
          exact a4 j (by omega)
      have newl : ∀ k, sumTo (fun j => if bit (upN fs f W.2.2.1 j) k = 1 then s 15 / upN fl f W.1 j else 0) (f + 1) = lapL s k (n + 1) := fun k => by
        show sumTo _ f + (if bit (upN fs f W.2.2.1 f) k = 1 then s 15 / upN fl f W.1 f else 0) = lapL s k n + _
        rw [hW, ← a5 k, upN_s, upN_s]
        refine congr (congrArg _ ?_) ?_
        · exact sumTo_congr (fun j hj => by rw [upN_n (by omega), upN_n (by omega)])
        · by_cases cb : bit W.2.2.1 k = 1
          · rw [if_pos cb, if_pos ⟨c, cb⟩]
          · rw [if_neg cb, if_neg (fun h => cb h.2)]
      have h9 : antS (lapA s n) 9 ≤ 180 := by
        rw [k3 9 (by omega) (by omega)]
        by_cases c0 : lapA s n 9 = 0
        · omega
        · exact (ia.2.2.2.2.1 c0).2.2.2.1
      by_cases cb : antS (lapA s n) 9 = 0 ∨ W.1 < antS (lapA s n) 9
      · have hst2 : lapA s (n + 1) = isb (antS (lapA s n)) W (W.2.1 + 1) := by rw [hst]; exact if_pos cb
        refine ⟨upM (upM (upM M2 114 (upI (M2 114) f (nI W.2.2.1))) 115 (upI (M2 115) f (nI W.1))) 107 (nf (isb (antS (lapA s n)) W (W.2.1 + 1))), upN fs f W.2.2.1, upN fl f W.1, f + 1, fun Q => ?_, by rw [hst2]; exact upM_s, by omega, newf _ rfl rfl, newl, ?_, ?_⟩
        · rw [a1, k118_4]
          by_cases c0 : antS (lapA s n) 9 = 0
          · simp only [k118_5, k118_6, k118_9, k118_11, k118_12, k118_15, k118_16, k118_19, k118_20, k118_23, k118_26, k118_27, k118_30, k118_31, k118_32, k118_35, k118_36, k118_37, k118_40, k118_41, k118_42, k118_45, k118_46, k118_49, k118_50, k118_53, k118_55, k118_56, k118_59, k118_60, k118_63, k118_64, k118_67, k118_69, k118_70, k118_73, k118_74, k118_77, k118_80, im_t106 hm, im_t107 hm, im_t108 hm, im_t109 hm, im_t110 hm, im_t111 hm, im_t112 hm, im_t113 hm, im_t114 hm, im_t115 hm, im_t116 hm, im_l107 hm, im_l108 hm, im_l109 hm, im_l110 hm, im_l111 hm, im_l112 hm, im_l113 hm, im_l114 hm, im_l115 hm, im_l116 hm, im_r0 hm, im_r1 hm, im_r2 hm, im_r3 hm, im_r5 hm, im_r7 hm, im_r14 hm, im_r15 hm, im_r16 hm, im_r22 hm, rf_s, pushR_s, pushR_n, le4_0, le4_1, le4_2, le4_3, le4_4, isLong_n, isLong_i, isLong_r, isLong_f, if_true, if_false, not_true_eq_false, not_false_eq_true, isI_0, isI_9, isAr_0, isAr_1, isAr_2, isAr_9, okR_i, okR_0, okR_1, putI_0, putI_b0, putI_b1, nI_10, nI_00, Nat.reduceLT, Nat.reduceLeDiff, nI_add, upM_s, upI_s, pk_mul, nf_at, a2, e13, e, b1, b4, v4, v2, u1, u2, u3, u4, b3, hf5, c0, m7]
          · have e9 : ¬ nI (antS (lapA s n) 9) = 0 := nI_ne0 (by omega) (by omega)
            have e10 : nI W.1 < nI (antS (lapA s n) 9) := nI_lt (by omega) (by omega)
            simp only [k118_5, k118_6, k118_9, k118_11, k118_12, k118_15, k118_16, k118_19, k118_20, k118_23, k118_26, k118_27, k118_30, k118_31, k118_32, k118_35, k118_36, k118_37, k118_40, k118_41, k118_42, k118_45, k118_46, k118_49, k118_50, k118_53, k118_55, k118_56, k118_59, k118_60, k118_63, k118_64, k118_67, k118_69, k118_70, k118_73, k118_74, k118_77, k118_80, im_t106 hm, im_t107 hm, im_t108 hm, im_t109 hm, im_t110 hm, im_t111 hm, im_t112 hm, im_t113 hm, im_t114 hm, im_t115 hm, im_t116 hm, im_l107 hm, im_l108 hm, im_l109 hm, im_l110 hm, im_l111 hm, im_l112 hm, im_l113 hm, im_l114 hm, im_l115 hm, im_l116 hm, im_r0 hm, im_r1 hm, im_r2 hm, im_r3 hm, im_r5 hm, im_r7 hm, im_r14 hm, im_r15 hm, im_r16 hm, im_r22 hm, rf_s, pushR_s, pushR_n, le4_0, le4_1, le4_2, le4_3, le4_4, isLong_n, isLong_i, isLong_r, isLong_f, if_true, if_false, not_true_eq_false, not_false_eq_true, isI_0, isI_9, isAr_0, isAr_1, isAr_2, isAr_9, okR_i, okR_0, okR_1, putI_0, putI_b0, putI_b1, nI_10, nI_00, Nat.reduceLT, Nat.reduceLeDiff, nI_add, upM_s, upI_s, pk_mul, nf_at, a2, e13, e, b1, b4, v4, v2, u1, u2, u3, u4, b3, hf5, e9, e10, m7]
        · intro o h1 h2 h3 h4 h5
          rw [upM_n h2, upM_n h5, upM_n h4, b5 o h1 h2 h3, a6 o h1 h2 h3 h4 h5]
        · intro j hj
          rw [upM_n (by decide), upM_n (by decide), upM_n (by decide), b6 j hj, a7 j hj]
      · have hst2 : lapA s (n + 1) = antS (lapA s n) := by rw [hst]; exact if_neg cb
        refine ⟨upM (upM M2 114 (upI (M2 114) f (nI W.2.2.1))) 115 (upI (M2 115) f (nI W.1)), upN fs f W.2.2.1, upN fl f W.1, f + 1, fun Q => ?_, by rw [hst2]; exact q3, by omega, newf _ rfl rfl, newl, ?_, ?_⟩
        · rw [a1, k118_4]
          have e9 : ¬ nI (antS (lapA s n) 9) = 0 := nI_ne0 (by omega) (by omega)
          have e10 : ¬ nI W.1 < nI (antS (lapA s n) 9) := nI_nlt (by omega) (by omega)
          simp only [k118_5, k118_6, k118_9, k118_11, k118_12, k118_15, k118_16, k118_19, k118_20, k118_23, k118_26, k118_27, k118_30, k118_31, k118_32, k118_35, k118_36, k118_37, k118_40, k118_41, k118_42, k118_45, k118_46, k118_49, k118_50, k118_53, k118_55, k118_56, k118_59, k118_60, k118_63, k118_64, k118_67, k118_69, k118_70, k118_73, k118_74, k118_77, k118_80, im_t106 hm, im_t107 hm, im_t108 hm, im_t109 hm, im_t110 hm, im_t111 hm, im_t112 hm, im_t113 hm, im_t114 hm, im_t115 hm, im_t116 hm, im_l107 hm, im_l108 hm, im_l109 hm, im_l110 hm, im_l111 hm, im_l112 hm, im_l113 hm, im_l114 hm, im_l115 hm, im_l116 hm, im_r0 hm, im_r1 hm, im_r2 hm, im_r3 hm, im_r5 hm, im_r7 hm, im_r14 hm, im_r15 hm, im_r16 hm, im_r22 hm, rf_s, pushR_s, pushR_n, le4_0, le4_1, le4_2, le4_3, le4_4, isLong_n, isLong_i, isLong_r, isLong_f, if_true, if_false, not_true_eq_false, not_false_eq_true, isI_0, isI_9, isAr_0, isAr_1, isAr_2, isAr_9, okR_i, okR_0, okR_1, putI_0, putI_b0, putI_b1, nI_10, nI_00, Nat.reduceLT, Nat.reduceLeDiff, nI_add, upM_s, upI_s, pk_mul, nf_at, a2, e13, e, b1, b4, v4, v2, u1, u2, u3, u4, b3, hf5, e9, e10]
        · intro o h1 h2 h3 h4 h5
          rw [upM_n h5, upM_n h4, b5 o h1 h2 h3, a6 o h1 h2 h3 h4 h5]
        · intro j hj
          rw [upM_n (by decide), upM_n (by decide), b6 j hj, a7 j hj]
    · have hst : lapA s (n + 1) = antS (lapA s n) := if_neg c
      have c' : ¬ nI (wlk (lapA s n)).2.2 = 0 := nI_ne0 (by omega) (by omega)
      refine ⟨M2, fs, fl, f, fun Q => ?_, by rw [hst]; exact b3, by omega, fun j hj => ?_, fun k => ?_, ?_, ?_⟩
      · rw [a1, k118_4]
        simp only [k118_5, k118_6, k118_9, k118_11, k118_12, k118_15, k118_16, k118_19, k118_20, k118_23, k118_26, k118_27, k118_30, k118_31, k118_32, k118_35, k118_36, k118_37, k118_40, k118_41, k118_42, k118_45, k118_46, k118_49, k118_50, k118_53, k118_55, k118_56, k118_59, k118_60, k118_63, k118_64, k118_67, k118_69, k118_70, k118_73, k118_74, k118_77, k118_80, im_t106 hm, im_t107 hm, im_t108 hm, im_t109 hm, im_t110 hm, im_t111 hm, im_t112 hm, im_t113 hm, im_t114 hm, im_t115 hm, im_t116 hm, im_l107 hm, im_l108 hm, im_l109 hm, im_l110 hm, im_l111 hm, im_l112 hm, im_l113 hm, im_l114 hm, im_l115 hm, im_l116 hm, im_r0 hm, im_r1 hm, im_r2 hm, im_r3 hm, im_r5 hm, im_r7 hm, im_r14 hm, im_r15 hm, im_r16 hm, im_r22 hm, rf_s, pushR_s, pushR_n, le4_0, le4_1, le4_2, le4_3, le4_4, isLong_n, isLong_i, isLong_r, isLong_f, if_true, if_false, not_true_eq_false, not_false_eq_true, isI_0, isI_9, isAr_0, isAr_1, isAr_2, isAr_9, okR_i, okR_0, okR_1, putI_0, putI_b0, putI_b1, nI_10, nI_00, Nat.reduceLT, Nat.reduceLeDiff, nI_add, upM_s, upI_s, pk_mul, nf_at, a2, e13, e, b1, b4, c']
      · rw [b5 114 (by decide) (by decide) (by decide), b5 115 (by decide) (by decide) (by decide)]
        exact a4 j hj
      · rw [a5 k]
        show _ = lapL s k n + _
        rw [if_neg (fun h => c h.1)]
        rfl
      · intro o h1 h2 h3 h4 h5
        rw [b5 o h1 h2 h3, a6 o h1 h2 h3 h4 h5]
      · intro j hj
        rw [b6 j hj, a7 j hj]
theorem m118 {σ : Sg} {M : Mem} (hm : IsM σ) {s : Nat → Nat} (hs : M 107 = nf s) (i : Inv s) (h2 : 2 ≤ s 0) : ∃ M' : Mem, (∀ Q, wp 118 0 [some (.ref 106), none, none, none] [] σ M Q = Q none σ M') ∧ M' 107 = nf (lapS s) ∧ (∀ o, o ≠ 106 → o ≠ 107 → o ≠ 113 → o ≠ 114 → o ≠ 115 → M' o = M o) ∧ (∀ i, i < 8 ∨ 13 < i → M' 106 i = M 106 i) := by
  obtain ⟨M1, fs, fl, f, a1, a2, a3, a4, a5, a6, a7⟩ := m118A hm hs i h2 (s 13) (Nat.le_refl _)
  obtain ⟨ia, ka⟩ := lapA_ok i h2 (s 13)
  have i2 := i.2.1
  unfold sOk at i2
  have e13 : lapA s (s 13) 13 = s 13 := ka.2.2.2 13 (by omega) (by omega)
  have e15 : lapA s (s 13) 15 = s 15 := ka.2.2.2 15 (by omega) (by omega)
  have e01 : ¬ nI (s 13) < nI (s 13) := nI_nlt (Nat.le_refl _) (by omega)
  have hL : ∀ k, lapL s k (s 13) ≤ 4995 := fun k => Nat.le_trans (lapL_le (k := k) (by omega) _) (by omega)
  refine ⟨upM M1 107 (nf (lapS s)), fun Q => ?_, upM_s, fun o h1 h2 h3 h4 h5 => by rw [upM_n h2]; exact a6 o h1 h2 h3 h4 h5, fun j hj => by rw [upM_n (by decide)]; exact a7 j hj⟩
  simp only [k118_0, k118_1, k118_2, k118_3, rf_s, pushR_s, pushR_n, le4_0, le4_1, le4_2, le4_3, le4_4, isLong_n, isLong_i, isLong_r, isLong_f, if_true, if_false, not_true_eq_false, not_false_eq_true, isI_0, isI_9, isAr_0, isAr_1, isAr_2, isAr_9, okR_i, okR_0, okR_1, putI_0, putI_b0, putI_b1, nI_10, nI_00, Nat.reduceLT, Nat.reduceLeDiff, nI_add, upM_s, upI_s, pk_mul, nf_at]
  rw [a1, k118_4]
  unfold lapS
  generalize lapA s (s 13) = A at *
  obtain ⟨⟨g0, g1, g2⟩, ia2, ia3, ia4, ia5⟩ := ia
  unfold sOk at ia2
  have hN : ∀ (S : Nat → Nat), upM M1 107 (nf S) 107 = nf S := fun S => upM_s
  have hO : ∀ (S : Nat → Nat), upM M1 107 (nf S) 106 = M1 106 := fun S => rfl
  have m3 := fun (S : Nat → Nat) k (hk : k < 16) Q => m102 (M := upM M1 107 (nf S)) (Q := Q) hm (k := k) (w := 3) hk (by omega)
  have m3' := fun (S : Nat → Nat) k (hk : k < 16) x Q => m103 (M := upM M1 107 (nf S)) (x := x) (Q := Q) hm (k := k) (w := 3) hk (by omega)
  have hM : M1 = upM M1 107 (nf (mapT A 0 (evp A))) := by rw [mapT_0, ← a2]; exact (upM_self rfl).symm
  simp only [k118_5, k118_6, k118_9, k118_11, k118_12, k118_15, k118_16, k118_19, k118_20, k118_23, k118_26, k118_27, k118_30, k118_31, k118_32, k118_35, k118_36, k118_37, k118_40, k118_41, k118_42, k118_45, k118_46, k118_49, k118_50, k118_53, k118_55, k118_56, k118_59, k118_60, k118_63, k118_64, k118_67, k118_69, k118_70, k118_73, k118_74, k118_77, k118_80, k118_83, k118_84, im_t106 hm, im_t107 hm, im_t108 hm, im_t109 hm, im_t110 hm, im_t111 hm, im_t112 hm, im_t113 hm, im_t114 hm, im_t115 hm, im_t116 hm, im_l107 hm, im_l108 hm, im_l109 hm, im_l110 hm, im_l111 hm, im_l112 hm, im_l113 hm, im_l114 hm, im_l115 hm, im_l116 hm, im_r0 hm, im_r1 hm, im_r2 hm, im_r3 hm, im_r5 hm, im_r7 hm, im_r14 hm, im_r15 hm, im_r16 hm, im_r22 hm, rf_s, pushR_s, pushR_n, le4_0, le4_1, le4_2, le4_3, le4_4, isLong_n, isLong_i, isLong_r, isLong_f, if_true, if_false, not_true_eq_false, not_false_eq_true, isI_0, isI_9, isAr_0, isAr_1, isAr_2, isAr_9, okR_i, okR_0, okR_1, putI_0, putI_b0, putI_b1, nI_10, nI_00, Nat.reduceLT, Nat.reduceLeDiff, nI_add, upM_s, upI_s, pk_mul, nf_at, a2, e13, e01]
  -- the trails grow less
  have p2 : wp 118 85 [some (.ref 106), some (.int (nI f)), some (.int (nI 0)), none] [] σ M1 Q = wp 118 133 [some (.ref 106), some (.int (nI f)), some (.int (nI 0)), none] [] σ (upM M1 107 (nf (mapT A (A 1) (evp A)))) Q := by
    rw [show wp 118 85 [some (.ref 106), some (.int (nI f)), some (.int (nI 0)), none] [] σ M1 Q = wp 118 85 [some (.ref 106), some (.int (nI f)), some (.int (nI 0)), none] [] σ (upM M1 107 (nf (mapT A 0 (evp A)))) Q from by rw [← hM]]
    refine (wp_up (n := A 1) (fun k => [some (.ref 106), some (.int (nI f)), some (.int (nI k)), none]) (fun k => upM M1 107 (nf (mapT A k (evp A)))) Q (fun k hk => ?_)).trans ?_
    · have e : nI k < nI (A 1) := nI_lt hk (by omega)
      have e1 : mapT A k (evp A) 1 = A 1 := mapT_lo (by decide)
      have e14 : mapT A k (evp A) 14 = A 14 := mapT_lo (by decide)
      have e3 : mapT A k (evp A) (30 + 6 * k + 3) = A (30 + 6 * k + 3) := mapT_3n (Nat.le_refl _)
      have up := mapT_up (s := A) (f := evp A) (n := k)
      have pk := g2 k hk
      unfold pOk at pk
      have hmul : A (30 + 6 * k + 3) * A 14 ≤ 9999 * 90 := Nat.mul_le_mul (by omega) (by omega)
      have hmul2 : A (30 + 6 * k + 3) * A 14 ≤ A (30 + 6 * k + 3) * 90 := Nat.mul_le_mul_left _ (by omega)
      have d1 := pk_div (a := A (30 + 6 * k + 3) * A 14) (d := 100) (by omega) (by omega) (by omega)
      have d2 := pk_sub (a := A (30 + 6 * k + 3)) (b := A (30 + 6 * k + 3) * A 14 / 100) (by omega)
      rw [← evp] at d2
      have z : ¬ nI 100 = 0 := by decide
      rw [k118_85]
      simp only [k118_86, k118_87, k118_90, k118_91, k118_92, k118_95, k118_96, k118_97, k118_98, k118_99, k118_100, k118_101, k118_104, k118_105, k118_106, k118_107, k118_110, k118_111, k118_114, k118_116, k118_117, k118_118, k118_120, k118_121, k118_122, k118_125, k118_128, im_t106 hm, im_t107 hm, im_t108 hm, im_t109 hm, im_t110 hm, im_t111 hm, im_t112 hm, im_t113 hm, im_t114 hm, im_t115 hm, im_t116 hm, im_l107 hm, im_l108 hm, im_l109 hm, im_l110 hm, im_l111 hm, im_l112 hm, im_l113 hm, im_l114 hm, im_l115 hm, im_l116 hm, im_r0 hm, im_r1 hm, im_r2 hm, im_r3 hm, im_r5 hm, im_r7 hm, im_r14 hm, im_r15 hm, im_r16 hm, im_r22 hm, rf_s, pushR_s, pushR_n, le4_0, le4_1, le4_2, le4_3, le4_4, isLong_n, isLong_i, isLong_r, isLong_f, if_true, if_false, not_true_eq_false, not_false_eq_true, isI_0, isI_9, isAr_0, isAr_1, isAr_2, isAr_9, okR_i, okR_0, okR_1, putI_0, putI_b0, putI_b1, nI_10, nI_00, Nat.reduceLT, Nat.reduceLeDiff, nI_add, upM_s, upI_s, pk_mul, nf_at, e1, e, m3 _ k (by omega), m3' _ k (by omega), e3, e14, d1, d2, z, upI_nf, upM_up, up]
    · have e : ¬ nI (A 1) < nI (A 1) := nI_nlt (Nat.le_refl _) (by omega)
      have e1 : mapT A (A 1) (evp A) 1 = A 1 := mapT_lo (by decide)
      rw [k118_85]
      simp only [k118_86, k118_87, k118_90, k118_91, k118_92, k118_95, k118_96, k118_97, k118_98, k118_99, k118_100, k118_101, k118_104, k118_105, k118_106, k118_107, k118_110, k118_111, k118_114, k118_116, k118_117, k118_118, k118_120, k118_121, k118_122, k118_125, k118_128, k118_131, k118_132, im_t106 hm, im_t107 hm, im_t108 hm, im_t109 hm, im_t110 hm, im_t111 hm, im_t112 hm, im_t113 hm, im_t114 hm, im_t115 hm, im_t116 hm, im_l107 hm, im_l108 hm, im_l109 hm, im_l110 hm, im_l111 hm, im_l112 hm, im_l113 hm, im_l114 hm, im_l115 hm, im_l116 hm, im_r0 hm, im_r1 hm, im_r2 hm, im_r3 hm, im_r5 hm, im_r7 hm, im_r14 hm, im_r15 hm, im_r16 hm, im_r22 hm, rf_s, pushR_s, pushR_n, le4_0, le4_1, le4_2, le4_3, le4_4, isLong_n, isLong_i, isLong_r, isLong_f, if_true, if_false, not_true_eq_false, not_false_eq_true, isI_0, isI_9, isAr_0, isAr_1, isAr_2, isAr_9, okR_i, okR_0, okR_1, putI_0, putI_b0, putI_b1, nI_10, nI_00, Nat.reduceLT, Nat.reduceLeDiff, nI_add, upM_s, upI_s, pk_mul, nf_at, e1, e]
  rw [p2]
  -- the ants lay
  have p3 : wp 118 133 [some (.ref 106), some (.int (nI f)), some (.int (nI 0)), none] [] σ (upM M1 107 (nf (mapT A (A 1) (evp A)))) Q = wp 118 168 [some (.ref 106), some (.int (nI f)), some (.int (nI f)), none] [] σ (upM M1 107 (nf (mapT A (A 1) (fun k => evp A k + lapL s k (s 13))))) Q := by
    refine (wp_up (n := f) (fun n => [some (.ref 106), some (.int (nI f)), some (.int (nI n)), none]) (fun n => upM M1 107 (nf (mapT A (A 1) (fun k => evp A k + sumTo (fun j => if bit (fs j) k = 1 then s 15 / fl j else 0) n)))) Q (fun n hn => ?_)).trans ?_
    · obtain ⟨b1, b2, b3, b4, b5⟩ := a4 n hn
      have e : nI n < nI f := nI_lt hn (by omega)
      generalize hF : (fun k => evp A k + sumTo (fun j => if bit (fs j) k = 1 then s 15 / fl j else 0) n) = F
      have e1 : mapT A (A 1) F 1 = A 1 := mapT_lo (by decide)
      have e15 : mapT A (A 1) F 15 = s 15 := by rw [mapT_lo (by decide)]; exact e15
      have z : ¬ nI (fl n) = 0 := nI_ne0 b4 (by omega)
      have d := pk_div (a := s 15) (d := fl n) (by omega) (by omega) (by omega)
      have hn5 : n < 5 := by omega
      have u1 : upM M1 107 (nf (mapT A (A 1) F)) 114 n = nI (fs n) := b1
      have u2 : upM M1 107 (nf (mapT A (A 1) F)) 115 n = nI (fl n) := b2
      have m := fun Q => m116 (M := upM M1 107 (nf (mapT A (A 1) F))) (Q := Q) hm (hN _) (by rw [e1]; exact g1) (a := fs n) (y := s 15 / fl n) b3
      have fin : mapT (mapT A (A 1) F) (mapT A (A 1) F 1) (fun k => mapT A (A 1) F (30 + 6 * k + 3) + (if bit (fs n) k = 1 then s 15 / fl n else 0)) = mapT A (A 1) (fun k => evp A k + sumTo (fun j => if bit (fs j) k = 1 then s 15 / fl j else 0) (n + 1)) := by
        rw [e1, mapT_mapT]
        refine mapT_congr (fun k hk => ?_)
        rw [mapT_3 hk, ← hF]
        exact Nat.add_assoc _ _ _
      rw [k118_133]
      simp only [k118_134, k118_135, k118_138, k118_139, k118_140, k118_143, k118_144, k118_145, k118_146, k118_149, k118_151, k118_152, k118_153, k118_156, k118_157, k118_158, k118_159, k118_162, k118_165, im_t106 hm, im_t107 hm, im_t108 hm, im_t109 hm, im_t110 hm, im_t111 hm, im_t112 hm, im_t113 hm, im_t114 hm, im_t115 hm, im_t116 hm, im_l107 hm, im_l108 hm, im_l109 hm, im_l110 hm, im_l111 hm, im_l112 hm, im_l113 hm, im_l114 hm, im_l115 hm, im_l116 hm, im_r0 hm, im_r1 hm, im_r2 hm, im_r3 hm, im_r5 hm, im_r7 hm, im_r14 hm, im_r15 hm, im_r16 hm, im_r22 hm, rf_s, pushR_s, pushR_n, le4_0, le4_1, le4_2, le4_3, le4_4, isLong_n, isLong_i, isLong_r, isLong_f, if_true, if_false, not_true_eq_false, not_false_eq_true, isI_0, isI_9, isAr_0, isAr_1, isAr_2, isAr_9, okR_i, okR_0, okR_1, putI_0, putI_b0, putI_b1, nI_10, nI_00, Nat.reduceLT, Nat.reduceLeDiff, nI_add, upM_s, upI_s, pk_mul, nf_at, e, hn5, u1, u2, e15, z, d, m, upM_up, fin]
    · have e : ¬ nI f < nI f := nI_nlt (Nat.le_refl _) (by omega)
      rw [k118_133]
      simp only [k118_134, k118_135, k118_138, k118_139, k118_140, k118_143, k118_144, k118_145, k118_146, k118_149, k118_151, k118_152, k118_153, k118_156, k118_157, k118_158, k118_159, k118_162, k118_165, im_t106 hm, im_t107 hm, im_t108 hm, im_t109 hm, im_t110 hm, im_t111 hm, im_t112 hm, im_t113 hm, im_t114 hm, im_t115 hm, im_t116 hm, im_l107 hm, im_l108 hm, im_l109 hm, im_l110 hm, im_l111 hm, im_l112 hm, im_l113 hm, im_l114 hm, im_l115 hm, im_l116 hm, im_r0 hm, im_r1 hm, im_r2 hm, im_r3 hm, im_r5 hm, im_r7 hm, im_r14 hm, im_r15 hm, im_r16 hm, im_r22 hm, rf_s, pushR_s, pushR_n, le4_0, le4_1, le4_2, le4_3, le4_4, isLong_n, isLong_i, isLong_r, isLong_f, if_true, if_false, not_true_eq_false, not_false_eq_true, isI_0, isI_9, isAr_0, isAr_1, isAr_2, isAr_9, okR_i, okR_0, okR_1, putI_0, putI_b0, putI_b1, nI_10, nI_00, Nat.reduceLT, Nat.reduceLeDiff, nI_add, upM_s, upI_s, pk_mul, nf_at, e, a5]
  rw [p3]
  -- the best way's
  have p4 : wp 118 168 [some (.ref 106), some (.int (nI f)), some (.int (nI f)), none] [] σ (upM M1 107 (nf (mapT A (A 1) (fun k => evp A k + lapL s k (s 13))))) Q = wp 118 214 [some (.ref 106), some (.int (nI f)), some (.int (nI 0)), none] [] σ (upM M1 107 (nf (mapT A (A 1) (fun k => evp A k + lapL s k (s 13) + onb A k)))) Q := by
    generalize hF : (fun k => evp A k + lapL s k (s 13)) = F
    have e1 : mapT A (A 1) F 1 = A 1 := mapT_lo (by decide)
    have e9 : mapT A (A 1) F 9 = A 9 := mapT_lo (by decide)
    have e12 : mapT A (A 1) F 12 = A 12 := mapT_lo (by decide)
    have e15 : mapT A (A 1) F 15 = A 15 := mapT_lo (by decide)
    have e16 : mapT A (A 1) F 16 = A 16 := mapT_lo (by decide)
    by_cases c : A 9 = 0
    · have z : nI 0 ≤ 0 := by decide
      have z2 : ¬ 0 < nI 0 := by decide
      have fin : F = (fun k => evp A k + lapL s k (s 13) + onb A k) := by
        rw [← hF]
        funext k
        unfold onb
        rw [if_pos c]
        rfl
      rw [← fin]
      simp only [k118_168, k118_169, k118_172, k118_174, k118_175, k118_178, k118_179, k118_180, k118_183, k118_185, k118_186, k118_187, k118_190, k118_192, k118_193, k118_194, k118_197, k118_199, k118_200, k118_201, k118_204, k118_206, k118_207, k118_208, k118_209, k118_212, k118_213, im_t106 hm, im_t107 hm, im_t108 hm, im_t109 hm, im_t110 hm, im_t111 hm, im_t112 hm, im_t113 hm, im_t114 hm, im_t115 hm, im_t116 hm, im_l107 hm, im_l108 hm, im_l109 hm, im_l110 hm, im_l111 hm, im_l112 hm, im_l113 hm, im_l114 hm, im_l115 hm, im_l116 hm, im_r0 hm, im_r1 hm, im_r2 hm, im_r3 hm, im_r5 hm, im_r7 hm, im_r14 hm, im_r15 hm, im_r16 hm, im_r22 hm, rf_s, pushR_s, pushR_n, le4_0, le4_1, le4_2, le4_3, le4_4, isLong_n, isLong_i, isLong_r, isLong_f, if_true, if_false, not_true_eq_false, not_false_eq_true, isI_0, isI_9, isAr_0, isAr_1, isAr_2, isAr_9, okR_i, okR_0, okR_1, putI_0, putI_b0, putI_b1, nI_10, nI_00, Nat.reduceLT, Nat.reduceLeDiff, nI_add, upM_s, upI_s, pk_mul, nf_at, e9, c, z, z2]
    · obtain ⟨q1, q2, q3, q4, q5, q6, q7⟩ := ia5.1 c
      have z : ¬ nI (A 9) ≤ 0 := nI_nle (by omega) (by omega)
      have z2 : 0 < nI (A 9) := by rw [← nI_0]; exact nI_lt (by omega) (by omega)
      have z3 : ¬ nI (A 9) = 0 := nI_ne0 (by omega) (by omega)
      have d := pk_div (a := A 15) (d := A 9) (by omega) (by omega) (by omega)
      have m := fun Q => m116 (M := upM M1 107 (nf (mapT A (A 1) F))) (Q := Q) hm (hN _) (by rw [e1]; exact g1) (a := A 12) (y := A 16 * (A 15 / A 9)) q5
      have fin : mapT (mapT A (A 1) F) (mapT A (A 1) F 1) (fun k => mapT A (A 1) F (30 + 6 * k + 3) + (if bit (A 12) k = 1 then A 16 * (A 15 / A 9) else 0)) = mapT A (A 1) (fun k => evp A k + lapL s k (s 13) + onb A k) := by
        rw [e1, mapT_mapT]
        refine mapT_congr (fun k hk => ?_)
        rw [mapT_3 hk, ← hF]
        unfold onb
        rw [if_neg c]
      simp only [k118_168, k118_169, k118_172, k118_174, k118_175, k118_178, k118_179, k118_180, k118_183, k118_185, k118_186, k118_187, k118_190, k118_192, k118_193, k118_194, k118_197, k118_199, k118_200, k118_201, k118_204, k118_206, k118_207, k118_208, k118_209, k118_212, k118_213, im_t106 hm, im_t107 hm, im_t108 hm, im_t109 hm, im_t110 hm, im_t111 hm, im_t112 hm, im_t113 hm, im_t114 hm, im_t115 hm, im_t116 hm, im_l107 hm, im_l108 hm, im_l109 hm, im_l110 hm, im_l111 hm, im_l112 hm, im_l113 hm, im_l114 hm, im_l115 hm, im_l116 hm, im_r0 hm, im_r1 hm, im_r2 hm, im_r3 hm, im_r5 hm, im_r7 hm, im_r14 hm, im_r15 hm, im_r16 hm, im_r22 hm, rf_s, pushR_s, pushR_n, le4_0, le4_1, le4_2, le4_3, le4_4, isLong_n, isLong_i, isLong_r, isLong_f, if_true, if_false, not_true_eq_false, not_false_eq_true, isI_0, isI_9, isAr_0, isAr_1, isAr_2, isAr_9, okR_i, okR_0, okR_1, putI_0, putI_b0, putI_b1, nI_10, nI_00, Nat.reduceLT, Nat.reduceLeDiff, nI_add, upM_s, upI_s, pk_mul, nf_at, e9, e12, e15, e16, z, z2, z3, d, m, upM_up, fin]
  rw [p4]
  -- the bounds
  generalize hF : (fun k => evp A k + lapL s k (s 13) + onb A k) = F
  have hFle : ∀ k, k < A 1 → F k < 2 ^ 31 := fun k hk => by
    have pk := g2 k hk
    unfold pOk at pk
    have h1 := hL k
    have h2 : evp A k ≤ 9999 := by unfold evp; omega
    have h3 : onb A k ≤ 9 * 999 := by
      unfold onb
      split
      · omega
      · split
        · exact Nat.mul_le_mul (by omega) (Nat.le_trans (Nat.div_le_self _ _) (by omega))
        · omega
    rw [← hF]
    show evp A k + lapL s k (s 13) + onb A k < 2 ^ 31
    omega
  have h0 : mapT A (A 1) F = mapT (mapT A (A 1) F) 0 (fun k => clp A (F k)) := mapT_0.symm
  rw [show wp 118 214 [some (.ref 106), some (.int (nI f)), some (.int (nI 0)), none] [] σ (upM M1 107 (nf (mapT A (A 1) F))) Q = wp 118 214 [some (.ref 106), some (.int (nI f)), some (.int (nI 0)), none] [] σ (upM M1 107 (nf (mapT (mapT A (A 1) F) 0 (fun k => clp A (F k))))) Q from by rw [← h0]]
  refine (wp_up (n := A 1) (fun k => [some (.ref 106), some (.int (nI f)), some (.int (nI k)), lastI F k]) (fun k => upM M1 107 (nf (mapT (mapT A (A 1) F) k (fun k => clp A (F k))))) Q (fun k hk => ?_)).trans ?_
  · have e : nI k < nI (A 1) := nI_lt hk (by omega)
    have lo : ∀ j, j < 30 → mapT (mapT A (A 1) F) k (fun k => clp A (F k)) j = A j := fun j hj => by rw [mapT_lo hj, mapT_lo hj]
    have e3 : mapT (mapT A (A 1) F) k (fun k => clp A (F k)) (30 + 6 * k + 3) = F k := by rw [mapT_3n (Nat.le_refl _), mapT_3 hk]
    have up := mapT_up (s := mapT A (A 1) F) (f := fun k => clp A (F k)) (n := k)
    have hf := hFle k hk
    rw [k118_214]
    by_cases c1 : F k < A 17
    · have z1 : nI (F k) < nI (A 17) := nI_lt c1 (by omega)
      have ec : clp A (F k) = A 17 := if_pos c1
      rw [ec] at up
      simp only [k118_215, k118_216, k118_219, k118_220, k118_221, k118_224, k118_225, k118_226, k118_227, k118_230, k118_231, k118_232, k118_233, k118_234, k118_235, k118_236, k118_239, k118_241, k118_242, k118_245, k118_246, k118_249, k118_251, k118_252, k118_255, k118_256, k118_257, k118_260, k118_262, k118_263, k118_266, k118_267, k118_270, k118_272, k118_273, k118_276, k118_277, k118_280, k118_283, im_t106 hm, im_t107 hm, im_t108 hm, im_t109 hm, im_t110 hm, im_t111 hm, im_t112 hm, im_t113 hm, im_t114 hm, im_t115 hm, im_t116 hm, im_l107 hm, im_l108 hm, im_l109 hm, im_l110 hm, im_l111 hm, im_l112 hm, im_l113 hm, im_l114 hm, im_l115 hm, im_l116 hm, im_r0 hm, im_r1 hm, im_r2 hm, im_r3 hm, im_r5 hm, im_r7 hm, im_r14 hm, im_r15 hm, im_r16 hm, im_r22 hm, rf_s, pushR_s, pushR_n, le4_0, le4_1, le4_2, le4_3, le4_4, isLong_n, isLong_i, isLong_r, isLong_f, if_true, if_false, not_true_eq_false, not_false_eq_true, isI_0, isI_9, isAr_0, isAr_1, isAr_2, isAr_9, okR_i, okR_0, okR_1, putI_0, putI_b0, putI_b1, nI_10, nI_00, Nat.reduceLT, Nat.reduceLeDiff, nI_add, upM_s, upI_s, pk_mul, nf_at, lo 1 (by omega), lo 17 (by omega), lo 18 (by omega), e, m3 _ k (by omega), m3' _ k (by omega), e3, z1, upI_nf, upM_up, up, lastI]
    · have z1 : ¬ nI (F k) < nI (A 17) := nI_nlt (by omega) (by omega)
      by_cases c2 : A 18 < F k
      · have z2 : ¬ nI (F k) ≤ nI (A 18) := nI_ge c2 (by omega)
        have z3 : nI (A 18) < nI (F k) := nI_lt c2 (by omega)
        have ec : clp A (F k) = A 18 := by unfold clp; rw [if_neg c1, if_pos c2]
        rw [ec] at up
        simp only [k118_215, k118_216, k118_219, k118_220, k118_221, k118_224, k118_225, k118_226, k118_227, k118_230, k118_231, k118_232, k118_233, k118_234, k118_235, k118_236, k118_239, k118_241, k118_242, k118_245, k118_246, k118_249, k118_251, k118_252, k118_255, k118_256, k118_257, k118_260, k118_262, k118_263, k118_266, k118_267, k118_270, k118_272, k118_273, k118_276, k118_277, k118_280, k118_283, im_t106 hm, im_t107 hm, im_t108 hm, im_t109 hm, im_t110 hm, im_t111 hm, im_t112 hm, im_t113 hm, im_t114 hm, im_t115 hm, im_t116 hm, im_l107 hm, im_l108 hm, im_l109 hm, im_l110 hm, im_l111 hm, im_l112 hm, im_l113 hm, im_l114 hm, im_l115 hm, im_l116 hm, im_r0 hm, im_r1 hm, im_r2 hm, im_r3 hm, im_r5 hm, im_r7 hm, im_r14 hm, im_r15 hm, im_r16 hm, im_r22 hm, rf_s, pushR_s, pushR_n, le4_0, le4_1, le4_2, le4_3, le4_4, isLong_n, isLong_i, isLong_r, isLong_f, if_true, if_false, not_true_eq_false, not_false_eq_true, isI_0, isI_9, isAr_0, isAr_1, isAr_2, isAr_9, okR_i, okR_0, okR_1, putI_0, putI_b0, putI_b1, nI_10, nI_00, Nat.reduceLT, Nat.reduceLeDiff, nI_add, upM_s, upI_s, pk_mul, nf_at, lo 1 (by omega), lo 17 (by omega), lo 18 (by omega), e, m3 _ k (by omega), m3' _ k (by omega), e3, z1, z2, z3, upI_nf, upM_up, up, lastI]
      · have z2 : nI (F k) ≤ nI (A 18) := nI_le (by omega) (by omega)
        have z3 : ¬ nI (A 18) < nI (F k) := nI_nlt (by omega) (by omega)
        have ec : clp A (F k) = F k := by unfold clp; rw [if_neg c1, if_neg c2]
        rw [ec] at up
        simp only [k118_215, k118_216, k118_219, k118_220, k118_221, k118_224, k118_225, k118_226, k118_227, k118_230, k118_231, k118_232, k118_233, k118_234, k118_235, k118_236, k118_239, k118_241, k118_242, k118_245, k118_246, k118_249, k118_251, k118_252, k118_255, k118_256, k118_257, k118_260, k118_262, k118_263, k118_266, k118_267, k118_270, k118_272, k118_273, k118_276, k118_277, k118_280, k118_283, im_t106 hm, im_t107 hm, im_t108 hm, im_t109 hm, im_t110 hm, im_t111 hm, im_t112 hm, im_t113 hm, im_t114 hm, im_t115 hm, im_t116 hm, im_l107 hm, im_l108 hm, im_l109 hm, im_l110 hm, im_l111 hm, im_l112 hm, im_l113 hm, im_l114 hm, im_l115 hm, im_l116 hm, im_r0 hm, im_r1 hm, im_r2 hm, im_r3 hm, im_r5 hm, im_r7 hm, im_r14 hm, im_r15 hm, im_r16 hm, im_r22 hm, rf_s, pushR_s, pushR_n, le4_0, le4_1, le4_2, le4_3, le4_4, isLong_n, isLong_i, isLong_r, isLong_f, if_true, if_false, not_true_eq_false, not_false_eq_true, isI_0, isI_9, isAr_0, isAr_1, isAr_2, isAr_9, okR_i, okR_0, okR_1, putI_0, putI_b0, putI_b1, nI_10, nI_00, Nat.reduceLT, Nat.reduceLeDiff, nI_add, upM_s, upI_s, pk_mul, nf_at, lo 1 (by omega), lo 17 (by omega), lo 18 (by omega), e, m3 _ k (by omega), m3' _ k (by omega), e3, z1, z2, z3, upI_nf, upM_up, up, lastI]
  · have e : ¬ nI (A 1) < nI (A 1) := nI_nlt (Nat.le_refl _) (by omega)
    have lo : ∀ j, j < 30 → mapT (mapT A (A 1) F) (A 1) (fun k => clp A (F k)) j = A j := fun j hj => by rw [mapT_lo hj, mapT_lo hj]
    have fin : endS A (fun k => lapL s k (s 13)) = upN (mapT (mapT A (A 1) F) (A 1) (fun k => clp A (F k))) 2 (A 2 + 1) := by
      unfold endS
      rw [mapT_mapT]
      exact congrArg (fun x => upN x 2 (A 2 + 1)) (mapT_congr (fun k hk => by rw [← hF]))
    rw [k118_214, fin]
    simp only [k118_215, k118_216, k118_219, k118_220, k118_221, k118_224, k118_225, k118_226, k118_227, k118_230, k118_231, k118_232, k118_233, k118_234, k118_235, k118_236, k118_239, k118_241, k118_242, k118_245, k118_246, k118_249, k118_251, k118_252, k118_255, k118_256, k118_257, k118_260, k118_262, k118_263, k118_266, k118_267, k118_270, k118_272, k118_273, k118_276, k118_277, k118_280, k118_283, k118_286, k118_287, k118_290, k118_291, k118_292, k118_293, k118_294, k118_295, k118_296, im_t106 hm, im_t107 hm, im_t108 hm, im_t109 hm, im_t110 hm, im_t111 hm, im_t112 hm, im_t113 hm, im_t114 hm, im_t115 hm, im_t116 hm, im_l107 hm, im_l108 hm, im_l109 hm, im_l110 hm, im_l111 hm, im_l112 hm, im_l113 hm, im_l114 hm, im_l115 hm, im_l116 hm, im_r0 hm, im_r1 hm, im_r2 hm, im_r3 hm, im_r5 hm, im_r7 hm, im_r14 hm, im_r15 hm, im_r16 hm, im_r22 hm, rf_s, pushR_s, pushR_n, le4_0, le4_1, le4_2, le4_3, le4_4, isLong_n, isLong_i, isLong_r, isLong_f, if_true, if_false, not_true_eq_false, not_false_eq_true, isI_0, isI_9, isAr_0, isAr_1, isAr_2, isAr_9, okR_i, okR_0, okR_1, putI_0, putI_b0, putI_b1, nI_10, nI_00, Nat.reduceLT, Nat.reduceLeDiff, nI_add, upM_s, upI_s, pk_mul, nf_at, lo 1 (by omega), lo 2 (by omega), e, upI_nf, upM_up]
