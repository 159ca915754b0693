def ow (s : Nat → Nat) (p k : Nat) : Nat := if acr s k p = 10 then 0 else wt s k
theorem ow_le {s : Nat → Nat} {p k : Nat} (h : pOk s k) : ow s p k ≤ 199981 := by
  unfold ow
  have := wt_le h
  split <;> omega
theorem ow_sum {s : Nat → Nat} {p : Nat} (g : Gph s) {n : Nat} (hn : n ≤ s 1) : sumTo (ow s p) n ≤ 3199696 := by
  have h1 := sumTo_le (f := ow s p) (c := 199981) (n := n) (fun k hk => ow_le (g.2.2 k (by omega)))
  have h2 : n * 199981 ≤ 16 * 199981 := Nat.mul_le_mul_right _ (by have := g.2.1; omega)
  omega
theorem sumTo_ge {f : Nat → Nat} {k : Nat} : ∀ {n : Nat}, k < n → f k ≤ sumTo f n
  | 0, h => absurd h (Nat.not_lt_zero _)
  | n + 1, h => by
    simp only [sumTo]
    by_cases c : k = n
    · rw [c]; omega
    · have := sumTo_ge (f := f) (k := k) (n := n) (by omega)
      omega
def fqt (s : Nat → Nat) (p k E t : Nat) : Prop := FP.fdiv (FP.i2f (nI (wt s k))) (FP.i2f (nI (sumTo (ow s p) (s 1)))) = fU E t ∧ 1 ≤ E ∧ E ≤ 127 ∧ t < 8388608
def rChance (s : Nat → Nat) (x y r : Int32) : Prop := (∃ p k, p < s 0 ∧ x = nI p ∧ k < s 1 ∧ y = nI k ∧ (acr s k p = 10 ∧ r = -1000000004 ∨ acr s k p ≠ 10 ∧ ∃ E t, fqt s p k E t ∧ r = nI (E * 8388608 + t))) ∨ ((¬ ∃ p, p < s 0 ∧ x = nI p) ∨ (∃ p, p < s 0 ∧ x = nI p) ∧ ¬ ∃ k, k < s 1 ∧ y = nI k) ∧ r = -1000000001
theorem rChance_ex {s : Nat → Nat} (g : Gph s) (x y : Int32) : ∃ r, rChance s x y r := by
  by_cases h1 : ∃ p, p < s 0 ∧ x = nI p
  · by_cases h2 : ∃ k, k < s 1 ∧ y = nI k
    · obtain ⟨p, hp, e1⟩ := h1
      obtain ⟨k, hk, e2⟩ := h2
      by_cases c : acr s k p = 10
      · exact ⟨_, Or.inl ⟨p, k, hp, e1, hk, e2, Or.inl ⟨c, rfl⟩⟩⟩
      · have hc : ow s p k = wt s k := if_neg c
        have h3 := sumTo_ge (f := ow s p) hk
        have h4 := ow_sum (p := p) g (Nat.le_refl (s 1))
        have h5 := wt_le (g.2.2 k hk)
        obtain ⟨E, t, q1, q2, q3, q4⟩ := fdiv_ok (w := wt s k) (S := sumTo (ow s p) (s 1)) (by omega) (by omega) (by omega)
        exact ⟨_, Or.inl ⟨p, k, hp, e1, hk, e2, Or.inr ⟨c, E, t, ⟨q1, q2, q3, q4⟩, rfl⟩⟩⟩
    · exact ⟨_, Or.inr ⟨Or.inr ⟨h1, h2⟩, rfl⟩⟩
  · exact ⟨_, Or.inr ⟨Or.inl h1, rfl⟩⟩
theorem m139 {σ : Sg} {M : Mem} (hm : IsM σ) {s : Nat → Nat} (hs : M 107 = nf s) (i : Inv s) {x y r : Int32} (o : rChance s x y r) (Q : Po) : wp 139 0 [some (.ref 106), some (.int x), some (.int y), none, none] [] σ M Q = Q (some (.int r)) σ M := by
  have g := i.1
  have g0 := i.1.1
  have g1 := i.1.2.1
  have py := fun {p} (h : p < s 0) Q => m100y (Q := Q) hm hs (by omega) h
  have pn := fun {v} (h : ¬ ∃ p, p < s 0 ∧ v = nI p) Q => m100n (Q := Q) hm hs (by omega) h
  have ky := fun {p} (h : p < s 1) Q => m101y (Q := Q) hm hs (by omega) h
  have kn := fun {v} (h : ¬ ∃ p, p < s 1 ∧ v = nI p) Q => m101n (Q := Q) hm hs (by omega) h
  rcases o with ⟨p, k, hp, e1, hk, e2, h⟩ | ⟨h, e⟩
  · subst e1 e2
    have hc := (g.2.2 k hk).2.2.2.2.2.2.2
    have m4 := fun Q => m104 (Q := Q) hm hs (k := k) (by omega) hc
    obtain ⟨z0, z1⟩ := pOk10 g hk
    have m5 := fun Q => m105 (Q := Q) hm hs (k := k) (by omega) z0 z1 (p := p) (by omega)
    have b5 := oth_10 (s := s) (k := k) (p := p) z0 z1
    rcases h with ⟨c, er⟩ | ⟨c, E, t, ⟨q1, q2, q3, q4⟩, er⟩
    · subst er
      by_cases c2 : oth s k p = 10
      · simp only [k139_0, k139_1, k139_2, k139_5, k139_8, k139_9, k139_10, k139_13, k139_16, k139_18, k139_19, k139_20, k139_21, k139_22, k139_25, k139_26, k139_29, k139_30, k139_31, k139_34, k139_37, k139_39, im_t106 hm, im_t107 hm, im_t108 hm, im_t109 hm, im_t110 hm, im_t111 hm, im_t112 hm, im_t113 hm, im_t114 hm, im_t115 hm, im_t116 hm, im_l107 hm, im_l108 hm, im_l109 hm, im_l110 hm, im_l111 hm, im_l112 hm, im_l113 hm, im_l114 hm, im_l115 hm, im_l116 hm, im_r0 hm, im_r1 hm, im_r2 hm, im_r3 hm, im_r5 hm, im_r7 hm, im_r14 hm, im_r15 hm, im_r16 hm, im_r22 hm, rf_s, pushR_s, pushR_n, le4_0, le4_1, le4_2, le4_3, le4_4, isLong_n, isLong_i, isLong_r, isLong_f, if_true, if_false, not_true_eq_false, not_false_eq_true, isI_0, isI_9, isAr_0, isAr_1, isAr_2, isAr_9, okR_i, okR_0, okR_1, putI_0, putI_b0, putI_b1, nI_10, nI_00, Nat.reduceLT, Nat.reduceLeDiff, nI_add, upM_s, upI_s, pk_mul, nf_at, py hp, ky hk, m5, c2, eI_10]
      · have c3 : s (30 + 6 * k + 4) = 1 := by
          unfold acr at c
          by_cases c3 : s (30 + 6 * k + 4) = 1
          · exact c3
          · rw [if_neg c3] at c; exact absurd c c2
        have z : ¬ nI (oth s k p) = -1 := ne_m1 (by omega)
        simp only [k139_0, k139_1, k139_2, k139_5, k139_8, k139_9, k139_10, k139_13, k139_16, k139_18, k139_19, k139_20, k139_21, k139_22, k139_25, k139_26, k139_29, k139_30, k139_31, k139_34, k139_37, k139_39, im_t106 hm, im_t107 hm, im_t108 hm, im_t109 hm, im_t110 hm, im_t111 hm, im_t112 hm, im_t113 hm, im_t114 hm, im_t115 hm, im_t116 hm, im_l107 hm, im_l108 hm, im_l109 hm, im_l110 hm, im_l111 hm, im_l112 hm, im_l113 hm, im_l114 hm, im_l115 hm, im_l116 hm, im_r0 hm, im_r1 hm, im_r2 hm, im_r3 hm, im_r5 hm, im_r7 hm, im_r14 hm, im_r15 hm, im_r16 hm, im_r22 hm, rf_s, pushR_s, pushR_n, le4_0, le4_1, le4_2, le4_3, le4_4, isLong_n, isLong_i, isLong_r, isLong_f, if_true, if_false, not_true_eq_false, not_false_eq_true, isI_0, isI_9, isAr_0, isAr_1, isAr_2, isAr_9, okR_i, okR_0, okR_1, putI_0, putI_b0, putI_b1, nI_10, nI_00, Nat.reduceLT, Nat.reduceLeDiff, nI_add, upM_s, upI_s, pk_mul, nf_at, py hp, ky hk, m5, eI, c2, z, m4, c3, Nat.reduceSub]
    · subst er
      have c3 : s (30 + 6 * k + 4) = 0 := by
        unfold acr at c
        by_cases c3 : s (30 + 6 * k + 4) = 1
        · rw [if_pos c3] at c; exact absurd rfl c
        · omega
      have c2 : oth s k p ≠ 10 := by
        unfold acr at c
        rw [if_neg (by omega)] at c
        exact c
      have z : ¬ nI (oth s k p) = -1 := ne_m1 (by omega)
      simp only [k139_0, k139_1, k139_2, k139_5, k139_8, k139_9, k139_10, k139_13, k139_16, k139_18, k139_19, k139_20, k139_21, k139_22, k139_25, k139_26, k139_29, k139_30, k139_31, k139_34, k139_37, k139_39, k139_40, k139_41, k139_42, k139_43, im_t106 hm, im_t107 hm, im_t108 hm, im_t109 hm, im_t110 hm, im_t111 hm, im_t112 hm, im_t113 hm, im_t114 hm, im_t115 hm, im_t116 hm, im_l107 hm, im_l108 hm, im_l109 hm, im_l110 hm, im_l111 hm, im_l112 hm, im_l113 hm, im_l114 hm, im_l115 hm, im_l116 hm, im_r0 hm, im_r1 hm, im_r2 hm, im_r3 hm, im_r5 hm, im_r7 hm, im_r14 hm, im_r15 hm, im_r16 hm, im_r22 hm, rf_s, pushR_s, pushR_n, le4_0, le4_1, le4_2, le4_3, le4_4, isLong_n, isLong_i, isLong_r, isLong_f, if_true, if_false, not_true_eq_false, not_false_eq_true, isI_0, isI_9, isAr_0, isAr_1, isAr_2, isAr_9, okR_i, okR_0, okR_1, putI_0, putI_b0, putI_b1, nI_10, nI_00, Nat.reduceLT, Nat.reduceLeDiff, nI_add, upM_s, upI_s, pk_mul, nf_at, py hp, ky hk, m5, eI, c2, z, m4, c3, Nat.reduceSub]
      refine (wp_up (n := s 1) (fun j => [some (.ref 106), some (.int (nI p)), some (.int (nI k)), some (.int (nI (sumTo (ow s p) j))), some (.int (nI j))]) (fun _ => M) Q (fun j hj => ?_)).trans ?_
      · have e : nI j < nI (s 1) := nI_lt hj (by omega)
        have hc := (g.2.2 j hj).2.2.2.2.2.2.2
        have m := fun Q => m104 (Q := Q) hm hs (k := j) (by omega) hc
        obtain ⟨e0, e1⟩ := pOk10 g hj
        have m2 := fun Q => m105 (Q := Q) hm hs (k := j) (by omega) e0 e1 (p := p) (by omega)
        have m6 := fun Q => m106 (Q := Q) hm hs (k := j) (by omega) (g.2.2 j hj)
        have e2 := oth_10 (p := p) e0 e1
        rw [k139_45]
        rcases (show s (30 + 6 * j + 4) = 0 ∨ s (30 + 6 * j + 4) = 1 by omega) with h | h
        · by_cases h2 : oth s j p = 10
          · simp only [k139_47, k139_48, k139_51, k139_52, k139_53, k139_56, k139_57, k139_58, k139_60, k139_63, k139_66, k139_67, k139_69, k139_70, k139_73, k139_74, k139_77, k139_78, k139_80, k139_83, k139_86, k139_87, k139_88, k139_89, k139_92, im_t106 hm, im_t107 hm, im_t108 hm, im_t109 hm, im_t110 hm, im_t111 hm, im_t112 hm, im_t113 hm, im_t114 hm, im_t115 hm, im_t116 hm, im_l107 hm, im_l108 hm, im_l109 hm, im_l110 hm, im_l111 hm, im_l112 hm, im_l113 hm, im_l114 hm, im_l115 hm, im_l116 hm, im_r0 hm, im_r1 hm, im_r2 hm, im_r3 hm, im_r5 hm, im_r7 hm, im_r14 hm, im_r15 hm, im_r16 hm, im_r22 hm, rf_s, pushR_s, pushR_n, le4_0, le4_1, le4_2, le4_3, le4_4, isLong_n, isLong_i, isLong_r, isLong_f, if_true, if_false, not_true_eq_false, not_false_eq_true, isI_0, isI_9, isAr_0, isAr_1, isAr_2, isAr_9, okR_i, okR_0, okR_1, putI_0, putI_b0, putI_b1, nI_10, nI_00, Nat.reduceLT, Nat.reduceLeDiff, nI_add, upM_s, upI_s, pk_mul, nf_at, hs, e, m, h, Nat.reduceSub, sumTo, ow, acr, h2, m2, eI_10, Nat.reduceEqDiff]
          · have h3 : ¬ nI (oth s j p) = -1 := ne_m1 (by omega)
            simp only [k139_47, k139_48, k139_51, k139_52, k139_53, k139_56, k139_57, k139_58, k139_60, k139_63, k139_66, k139_67, k139_69, k139_70, k139_73, k139_74, k139_77, k139_78, k139_80, k139_83, k139_86, k139_87, k139_88, k139_89, k139_92, im_t106 hm, im_t107 hm, im_t108 hm, im_t109 hm, im_t110 hm, im_t111 hm, im_t112 hm, im_t113 hm, im_t114 hm, im_t115 hm, im_t116 hm, im_l107 hm, im_l108 hm, im_l109 hm, im_l110 hm, im_l111 hm, im_l112 hm, im_l113 hm, im_l114 hm, im_l115 hm, im_l116 hm, im_r0 hm, im_r1 hm, im_r2 hm, im_r3 hm, im_r5 hm, im_r7 hm, im_r14 hm, im_r15 hm, im_r16 hm, im_r22 hm, rf_s, pushR_s, pushR_n, le4_0, le4_1, le4_2, le4_3, le4_4, isLong_n, isLong_i, isLong_r, isLong_f, if_true, if_false, not_true_eq_false, not_false_eq_true, isI_0, isI_9, isAr_0, isAr_1, isAr_2, isAr_9, okR_i, okR_0, okR_1, putI_0, putI_b0, putI_b1, nI_10, nI_00, Nat.reduceLT, Nat.reduceLeDiff, nI_add, upM_s, upI_s, pk_mul, nf_at, hs, e, m, h, Nat.reduceSub, sumTo, ow, acr, h2, m2, eI, Nat.reduceEqDiff, h3, m6]
        · simp only [k139_47, k139_48, k139_51, k139_52, k139_53, k139_56, k139_57, k139_58, k139_60, k139_63, k139_66, k139_67, k139_69, k139_70, k139_73, k139_74, k139_77, k139_78, k139_80, k139_83, k139_86, k139_87, k139_88, k139_89, k139_92, im_t106 hm, im_t107 hm, im_t108 hm, im_t109 hm, im_t110 hm, im_t111 hm, im_t112 hm, im_t113 hm, im_t114 hm, im_t115 hm, im_t116 hm, im_l107 hm, im_l108 hm, im_l109 hm, im_l110 hm, im_l111 hm, im_l112 hm, im_l113 hm, im_l114 hm, im_l115 hm, im_l116 hm, im_r0 hm, im_r1 hm, im_r2 hm, im_r3 hm, im_r5 hm, im_r7 hm, im_r14 hm, im_r15 hm, im_r16 hm, im_r22 hm, rf_s, pushR_s, pushR_n, le4_0, le4_1, le4_2, le4_3, le4_4, isLong_n, isLong_i, isLong_r, isLong_f, if_true, if_false, not_true_eq_false, not_false_eq_true, isI_0, isI_9, isAr_0, isAr_1, isAr_2, isAr_9, okR_i, okR_0, okR_1, putI_0, putI_b0, putI_b1, nI_10, nI_00, Nat.reduceLT, Nat.reduceLeDiff, nI_add, upM_s, upI_s, pk_mul, nf_at, hs, e, m, h, Nat.reduceSub, sumTo, ow, acr]
      · have e : ¬ nI (s 1) < nI (s 1) := nI_nlt (Nat.le_refl _) (by omega)
        have m6 := fun Q => m106 (Q := Q) hm hs (k := k) (by omega) (g.2.2 k hk)
        have n := nn_fU (E := E) (t := t) (by omega) q4
        have m9 := fun Q => b161 (σ := σ) (M := M) (Q := Q) q2 q3 q4
        rw [k139_45]
        simp only [k139_47, k139_48, k139_51, k139_52, k139_53, k139_56, k139_57, k139_58, k139_60, k139_63, k139_66, k139_67, k139_69, k139_70, k139_73, k139_74, k139_77, k139_78, k139_80, k139_83, k139_86, k139_87, k139_88, k139_89, k139_92, k139_95, k139_96, k139_97, k139_100, k139_101, k139_102, k139_103, k139_104, k139_107, im_t106 hm, im_t107 hm, im_t108 hm, im_t109 hm, im_t110 hm, im_t111 hm, im_t112 hm, im_t113 hm, im_t114 hm, im_t115 hm, im_t116 hm, im_l107 hm, im_l108 hm, im_l109 hm, im_l110 hm, im_l111 hm, im_l112 hm, im_l113 hm, im_l114 hm, im_l115 hm, im_l116 hm, im_r0 hm, im_r1 hm, im_r2 hm, im_r3 hm, im_r5 hm, im_r7 hm, im_r14 hm, im_r15 hm, im_r16 hm, im_r22 hm, rf_s, pushR_s, pushR_n, le4_0, le4_1, le4_2, le4_3, le4_4, isLong_n, isLong_i, isLong_r, isLong_f, if_true, if_false, not_true_eq_false, not_false_eq_true, isI_0, isI_9, isAr_0, isAr_1, isAr_2, isAr_9, okR_i, okR_0, okR_1, putI_0, putI_b0, putI_b1, nI_10, nI_00, Nat.reduceLT, Nat.reduceLeDiff, nI_add, upM_s, upI_s, pk_mul, nf_at, hs, e, m6, q1, n, m9]
  · subst e
    rcases h with h | ⟨⟨p, hp, e⟩, h⟩
    · simp only [k139_0, k139_1, k139_2, k139_5, k139_8, k139_9, k139_10, k139_13, k139_16, k139_18, k139_19, k139_20, k139_21, k139_22, k139_25, k139_26, k139_29, k139_30, k139_31, k139_34, k139_37, k139_39, im_t106 hm, im_t107 hm, im_t108 hm, im_t109 hm, im_t110 hm, im_t111 hm, im_t112 hm, im_t113 hm, im_t114 hm, im_t115 hm, im_t116 hm, im_l107 hm, im_l108 hm, im_l109 hm, im_l110 hm, im_l111 hm, im_l112 hm, im_l113 hm, im_l114 hm, im_l115 hm, im_l116 hm, im_r0 hm, im_r1 hm, im_r2 hm, im_r3 hm, im_r5 hm, im_r7 hm, im_r14 hm, im_r15 hm, im_r16 hm, im_r22 hm, rf_s, pushR_s, pushR_n, le4_0, le4_1, le4_2, le4_3, le4_4, isLong_n, isLong_i, isLong_r, isLong_f, if_true, if_false, not_true_eq_false, not_false_eq_true, isI_0, isI_9, isAr_0, isAr_1, isAr_2, isAr_9, okR_i, okR_0, okR_1, putI_0, putI_b0, putI_b1, nI_10, nI_00, Nat.reduceLT, Nat.reduceLeDiff, nI_add, upM_s, upI_s, pk_mul, nf_at, pn h]
    · subst e
      simp only [k139_0, k139_1, k139_2, k139_5, k139_8, k139_9, k139_10, k139_13, k139_16, k139_18, k139_19, k139_20, k139_21, k139_22, k139_25, k139_26, k139_29, k139_30, k139_31, k139_34, k139_37, k139_39, im_t106 hm, im_t107 hm, im_t108 hm, im_t109 hm, im_t110 hm, im_t111 hm, im_t112 hm, im_t113 hm, im_t114 hm, im_t115 hm, im_t116 hm, im_l107 hm, im_l108 hm, im_l109 hm, im_l110 hm, im_l111 hm, im_l112 hm, im_l113 hm, im_l114 hm, im_l115 hm, im_l116 hm, im_r0 hm, im_r1 hm, im_r2 hm, im_r3 hm, im_r5 hm, im_r7 hm, im_r14 hm, im_r15 hm, im_r16 hm, im_r22 hm, rf_s, pushR_s, pushR_n, le4_0, le4_1, le4_2, le4_3, le4_4, isLong_n, isLong_i, isLong_r, isLong_f, if_true, if_false, not_true_eq_false, not_false_eq_true, isI_0, isI_9, isAr_0, isAr_1, isAr_2, isAr_9, okR_i, okR_0, okR_1, putI_0, putI_b0, putI_b1, nI_10, nI_00, Nat.reduceLT, Nat.reduceLeDiff, nI_add, upM_s, upI_s, pk_mul, nf_at, py hp, kn h]
