/-! the orders: what each answers and leaves -/
def gPath (s : Nat → Nat) (a b l : Nat) : Nat → Nat := upN (upN (upN (upN (upN (upN (upN s (30 + 6 * s 1 + 0) a) (30 + 6 * s 1 + 1) b) (30 + 6 * s 1 + 2) l) (30 + 6 * s 1 + 3) (s 17)) (30 + 6 * s 1 + 4) 0) (30 + 6 * s 1 + 5) 0) 1 (s 1 + 1)
def oPath (s : Nat → Nat) (x y z r : Int32) (s' : Nat → Nat) : Prop := (∃ a b l, x = nI a ∧ y = nI b ∧ z = nI l ∧ a < s 0 ∧ b < s 0 ∧ a ≠ b ∧ 1 ≤ l ∧ l ≤ 20 ∧ (s 1 = 16 ∧ r = -1000000003 ∧ s' = s ∨ s 1 < 16 ∧ r = nI (s 1) ∧ s' = gPath s a b l)) ∨ ((¬ ∃ a, a < s 0 ∧ x = nI a) ∨ (∃ a, a < s 0 ∧ x = nI a) ∧ (¬ ∃ b, b < s 0 ∧ y = nI b) ∨ (∃ a, a < s 0 ∧ x = nI a) ∧ (∃ b, b < s 0 ∧ y = nI b) ∧ x = y ∨ (∃ a, a < s 0 ∧ x = nI a) ∧ (∃ b, b < s 0 ∧ y = nI b) ∧ x ≠ y ∧ ¬ ∃ l, 1 ≤ l ∧ l ≤ 20 ∧ z = nI l) ∧ r = -1000000001 ∧ s' = s
theorem oPath_ex {s : Nat → Nat} (i : Inv s) (x y z : Int32) : ∃ r s', oPath s x y z r s' := by
  have g1 := i.1.2.1
  by_cases h1 : ∃ a, a < s 0 ∧ x = nI a
  · by_cases h2 : ∃ b, b < s 0 ∧ y = nI b
    · by_cases h3 : x = y
      · exact ⟨_, _, Or.inr ⟨Or.inr (Or.inr (Or.inl ⟨h1, h2, h3⟩)), rfl, rfl⟩⟩
      · by_cases h4 : ∃ l, 1 ≤ l ∧ l ≤ 20 ∧ z = nI l
        · obtain ⟨a, ha, e1⟩ := h1
          obtain ⟨b, hb, e2⟩ := h2
          obtain ⟨l, hl1, hl2, e3⟩ := h4
          have hab : a ≠ b := fun e => h3 (by rw [e1, e2, e])
          by_cases h5 : s 1 = 16
          · exact ⟨_, _, Or.inl ⟨a, b, l, e1, e2, e3, ha, hb, hab, hl1, hl2, Or.inl ⟨h5, rfl, rfl⟩⟩⟩
          · exact ⟨_, _, Or.inl ⟨a, b, l, e1, e2, e3, ha, hb, hab, hl1, hl2, Or.inr ⟨by omega, rfl, rfl⟩⟩⟩
        · exact ⟨_, _, Or.inr ⟨Or.inr (Or.inr (Or.inr ⟨h1, h2, h3, h4⟩)), rfl, rfl⟩⟩
    · exact ⟨_, _, Or.inr ⟨Or.inr (Or.inl ⟨h1, h2⟩), rfl, rfl⟩⟩
  · exact ⟨_, _, Or.inr ⟨Or.inl h1, rfl, rfl⟩⟩
theorem inI_c {v : Int32} {a b n : Nat} (ha : a < 2 ^ 31) (hb : b < 2 ^ 31) (h1 : a ≤ n) (h2 : n ≤ b) (e : v = nI n) : inI v (nI a) (nI b) = nI 1 := by
  unfold inI
  subst e
  rw [if_neg (nI_nlt h1 (by omega)), if_neg (nI_nlt h2 hb)]
theorem inI_d {v : Int32} {a b : Nat} (ha : a < 2 ^ 31) (hb : b + 1 < 2 ^ 31) (h : ¬ ∃ n, a ≤ n ∧ n ≤ b ∧ v = nI n) : inI v (nI a) (nI b) = nI 0 := by
  unfold inI
  by_cases c : v < nI a
  · rw [if_pos c]
  · have h9 : nI b < v := by
      rcases pk_ix v hb with h1 | h1 | ⟨j, hj, e⟩
      · exfalso
        have h2 := Int32.lt_iff_toInt_lt.1 h1
        have h0 : (0 : Int32).toInt = 0 := by decide
        exact c (Int32.lt_iff_toInt_lt.2 (by rw [nI_toInt ha]; omega))
      · have h2 := Int32.le_iff_toInt_le.1 h1
        rw [nI_toInt hb] at h2
        exact Int32.lt_iff_toInt_lt.2 (by rw [nI_toInt (by omega)]; omega)
      · exfalso
        apply h
        refine ⟨j, ?_, by omega, e⟩
        by_cases c2 : a ≤ j
        · exact c2
        · exact absurd (by rw [e]; exact nI_lt (by omega) (by omega)) c
    rw [if_neg c, if_pos h9]
theorem m120 {σ : Sg} {M : Mem} (hm : IsM σ) {s : Nat → Nat} (hs : M 107 = nf s) (i : Inv s) {x y z r : Int32} {s' : Nat → Nat} (o : oPath s x y z r s') (Q : Po) : wp 120 0 [some (.ref 106), some (.int x), some (.int y), some (.int z), none] [] σ M Q = Q (some (.int r)) σ (upM M 107 (nf s')) := by
  have g0 := i.1.1
  have g1 := i.1.2.1
  have self : upM M 107 (nf s) = M := upM_self hs
  have py := fun {p} (h : p < s 0) Q => m100y (Q := Q) hm hs (by omega) h
  have pn := fun {v} (h : ¬ ∃ p, p < s 0 ∧ v = nI p) Q => m100n (Q := Q) hm hs (by omega) h
  rcases o with ⟨a, b, l, e1, e2, e3, ha, hb, hab, hl1, hl2, h⟩ | ⟨h, e4, e5⟩
  · subst e1 e2 e3
    have ne : ¬ nI a = nI b := ne_n (by omega) (by omega) hab
    have il := inI_c (v := nI l) (a := 1) (b := 20) (by omega) (by omega) hl1 hl2 rfl
    rcases h with ⟨h1, h2, h3⟩ | ⟨h1, h2, h3⟩
    · rw [h2, h3]
      simp only [k120_0, k120_1, k120_2, k120_5, k120_8, k120_9, k120_10, k120_13, k120_16, k120_17, k120_18, k120_21, k120_22, k120_23, k120_25, k120_28, k120_31, k120_33, k120_34, k120_35, k120_38, k120_39, k120_40, k120_42, k120_45, k120_47, k120_48, k120_49, k120_52, k120_53, k120_54, k120_56, k120_57, k120_59, k120_60, k120_61, k120_64, k120_65, k120_67, k120_68, k120_69, k120_72, k120_73, k120_75, k120_76, k120_77, k120_80, k120_81, k120_83, k120_84, k120_85, k120_88, k120_90, k120_91, k120_94, k120_95, k120_97, k120_98, k120_99, k120_102, k120_103, k120_105, k120_106, k120_107, k120_110, k120_111, k120_114, k120_115, k120_116, k120_117, k120_118, k120_119, k120_120, k120_122, im_t106 hm, im_t107 hm, im_t108 hm, im_t109 hm, im_t110 hm, im_t111 hm, im_t112 hm, im_t113 hm, im_t114 hm, im_t115 hm, im_t116 hm, im_l107 hm, im_l108 hm, im_l109 hm, im_l110 hm, im_l111 hm, im_l112 hm, im_l113 hm, im_l114 hm, im_l115 hm, im_l116 hm, im_r0 hm, im_r1 hm, im_r2 hm, im_r3 hm, im_r5 hm, im_r7 hm, im_r14 hm, im_r15 hm, im_r16 hm, im_r22 hm, rf_s, pushR_s, pushR_n, le4_0, le4_1, le4_2, le4_3, le4_4, isLong_n, isLong_i, isLong_r, isLong_f, if_true, if_false, not_true_eq_false, not_false_eq_true, isI_0, isI_9, isAr_0, isAr_1, isAr_2, isAr_9, okR_i, okR_0, okR_1, putI_0, putI_b0, putI_b1, nI_10, nI_00, Nat.reduceLT, Nat.reduceLeDiff, nI_add, upM_s, upI_s, pk_mul, nf_at, py ha, py hb, ne, m95, il, hs, h1, self]
    · rw [h2, h3]
      have n16 : ¬ nI (s 1) = nI 16 := ne_n (by omega) (by omega) (by omega)
      have mm : ∀ {M : Mem} {w : Nat} {x : Int32} (hw : w < 6) (Q : Po), wp 103 0 [some (.ref 106), some (.int (nI (s 1))), some (.int (nI w)), some (.int x)] [] σ M Q = Q none σ (upM M 107 (upI (M 107) (30 + 6 * s 1 + w) x)) := fun hw Q => m103 hm h1 hw Q
      have q0 := fun (M : Mem) (x : Int32) Q => mm (M := M) (x := x) (w := 0) (by omega) Q
      have q1 := fun (M : Mem) (x : Int32) Q => mm (M := M) (x := x) (w := 1) (by omega) Q
      have q2 := fun (M : Mem) (x : Int32) Q => mm (M := M) (x := x) (w := 2) (by omega) Q
      have q3 := fun (M : Mem) (x : Int32) Q => mm (M := M) (x := x) (w := 3) (by omega) Q
      have q4 := fun (M : Mem) (x : Int32) Q => mm (M := M) (x := x) (w := 4) (by omega) Q
      have q5 := fun (M : Mem) (x : Int32) Q => mm (M := M) (x := x) (w := 5) (by omega) Q
      have r1 : ∀ {f : Nat → Nat} {w v : Nat}, upN f (30 + 6 * s 1 + w) v 1 = f 1 := fun {f w v} => upN_n (by omega)
      have r17 : ∀ {f : Nat → Nat} {w v : Nat}, upN f (30 + 6 * s 1 + w) v 17 = f 17 := fun {f w v} => upN_n (by omega)
      simp only [k120_0, k120_1, k120_2, k120_5, k120_8, k120_9, k120_10, k120_13, k120_16, k120_17, k120_18, k120_21, k120_22, k120_23, k120_25, k120_28, k120_31, k120_33, k120_34, k120_35, k120_38, k120_39, k120_40, k120_42, k120_45, k120_47, k120_48, k120_49, k120_52, k120_53, k120_54, k120_56, k120_57, k120_59, k120_60, k120_61, k120_64, k120_65, k120_67, k120_68, k120_69, k120_72, k120_73, k120_75, k120_76, k120_77, k120_80, k120_81, k120_83, k120_84, k120_85, k120_88, k120_90, k120_91, k120_94, k120_95, k120_97, k120_98, k120_99, k120_102, k120_103, k120_105, k120_106, k120_107, k120_110, k120_111, k120_114, k120_115, k120_116, k120_117, k120_118, k120_119, k120_120, k120_122, im_t106 hm, im_t107 hm, im_t108 hm, im_t109 hm, im_t110 hm, im_t111 hm, im_t112 hm, im_t113 hm, im_t114 hm, im_t115 hm, im_t116 hm, im_l107 hm, im_l108 hm, im_l109 hm, im_l110 hm, im_l111 hm, im_l112 hm, im_l113 hm, im_l114 hm, im_l115 hm, im_l116 hm, im_r0 hm, im_r1 hm, im_r2 hm, im_r3 hm, im_r5 hm, im_r7 hm, im_r14 hm, im_r15 hm, im_r16 hm, im_r22 hm, rf_s, pushR_s, pushR_n, le4_0, le4_1, le4_2, le4_3, le4_4, isLong_n, isLong_i, isLong_r, isLong_f, if_true, if_false, not_true_eq_false, not_false_eq_true, isI_0, isI_9, isAr_0, isAr_1, isAr_2, isAr_9, okR_i, okR_0, okR_1, putI_0, putI_b0, putI_b1, nI_10, nI_00, Nat.reduceLT, Nat.reduceLeDiff, nI_add, upM_s, upI_s, pk_mul, nf_at, py ha, py hb, ne, m95, il, hs, n16, q0, q1, q2, q3, q4, q5, upI_nf, upM_up, r1, r17, gPath]
  · rw [e4, e5, self]
    rcases h with h | ⟨⟨a, ha, e1⟩, h⟩ | ⟨⟨a, ha, e1⟩, ⟨b, hb, e2⟩, h⟩ | ⟨⟨a, ha, e1⟩, ⟨b, hb, e2⟩, ne, h⟩
    · simp only [k120_0, k120_1, k120_2, k120_5, k120_8, k120_9, k120_10, k120_13, k120_16, k120_17, k120_18, k120_21, k120_22, k120_23, k120_25, k120_28, k120_31, k120_33, k120_34, k120_35, k120_38, k120_39, k120_40, k120_42, k120_45, k120_47, k120_48, k120_49, k120_52, k120_53, k120_54, k120_56, k120_57, k120_59, k120_60, k120_61, k120_64, k120_65, k120_67, k120_68, k120_69, k120_72, k120_73, k120_75, k120_76, k120_77, k120_80, k120_81, k120_83, k120_84, k120_85, k120_88, k120_90, k120_91, k120_94, k120_95, k120_97, k120_98, k120_99, k120_102, k120_103, k120_105, k120_106, k120_107, k120_110, k120_111, k120_114, k120_115, k120_116, k120_117, k120_118, k120_119, k120_120, k120_122, im_t106 hm, im_t107 hm, im_t108 hm, im_t109 hm, im_t110 hm, im_t111 hm, im_t112 hm, im_t113 hm, im_t114 hm, im_t115 hm, im_t116 hm, im_l107 hm, im_l108 hm, im_l109 hm, im_l110 hm, im_l111 hm, im_l112 hm, im_l113 hm, im_l114 hm, im_l115 hm, im_l116 hm, im_r0 hm, im_r1 hm, im_r2 hm, im_r3 hm, im_r5 hm, im_r7 hm, im_r14 hm, im_r15 hm, im_r16 hm, im_r22 hm, rf_s, pushR_s, pushR_n, le4_0, le4_1, le4_2, le4_3, le4_4, isLong_n, isLong_i, isLong_r, isLong_f, if_true, if_false, not_true_eq_false, not_false_eq_true, isI_0, isI_9, isAr_0, isAr_1, isAr_2, isAr_9, okR_i, okR_0, okR_1, putI_0, putI_b0, putI_b1, nI_10, nI_00, Nat.reduceLT, Nat.reduceLeDiff, nI_add, upM_s, upI_s, pk_mul, nf_at, pn h]
    · subst e1
      simp only [k120_0, k120_1, k120_2, k120_5, k120_8, k120_9, k120_10, k120_13, k120_16, k120_17, k120_18, k120_21, k120_22, k120_23, k120_25, k120_28, k120_31, k120_33, k120_34, k120_35, k120_38, k120_39, k120_40, k120_42, k120_45, k120_47, k120_48, k120_49, k120_52, k120_53, k120_54, k120_56, k120_57, k120_59, k120_60, k120_61, k120_64, k120_65, k120_67, k120_68, k120_69, k120_72, k120_73, k120_75, k120_76, k120_77, k120_80, k120_81, k120_83, k120_84, k120_85, k120_88, k120_90, k120_91, k120_94, k120_95, k120_97, k120_98, k120_99, k120_102, k120_103, k120_105, k120_106, k120_107, k120_110, k120_111, k120_114, k120_115, k120_116, k120_117, k120_118, k120_119, k120_120, k120_122, im_t106 hm, im_t107 hm, im_t108 hm, im_t109 hm, im_t110 hm, im_t111 hm, im_t112 hm, im_t113 hm, im_t114 hm, im_t115 hm, im_t116 hm, im_l107 hm, im_l108 hm, im_l109 hm, im_l110 hm, im_l111 hm, im_l112 hm, im_l113 hm, im_l114 hm, im_l115 hm, im_l116 hm, im_r0 hm, im_r1 hm, im_r2 hm, im_r3 hm, im_r5 hm, im_r7 hm, im_r14 hm, im_r15 hm, im_r16 hm, im_r22 hm, rf_s, pushR_s, pushR_n, le4_0, le4_1, le4_2, le4_3, le4_4, isLong_n, isLong_i, isLong_r, isLong_f, if_true, if_false, not_true_eq_false, not_false_eq_true, isI_0, isI_9, isAr_0, isAr_1, isAr_2, isAr_9, okR_i, okR_0, okR_1, putI_0, putI_b0, putI_b1, nI_10, nI_00, Nat.reduceLT, Nat.reduceLeDiff, nI_add, upM_s, upI_s, pk_mul, nf_at, py ha, pn h]
    · subst e1
      subst h
      simp only [k120_0, k120_1, k120_2, k120_5, k120_8, k120_9, k120_10, k120_13, k120_16, k120_17, k120_18, k120_21, k120_22, k120_23, k120_25, k120_28, k120_31, k120_33, k120_34, k120_35, k120_38, k120_39, k120_40, k120_42, k120_45, k120_47, k120_48, k120_49, k120_52, k120_53, k120_54, k120_56, k120_57, k120_59, k120_60, k120_61, k120_64, k120_65, k120_67, k120_68, k120_69, k120_72, k120_73, k120_75, k120_76, k120_77, k120_80, k120_81, k120_83, k120_84, k120_85, k120_88, k120_90, k120_91, k120_94, k120_95, k120_97, k120_98, k120_99, k120_102, k120_103, k120_105, k120_106, k120_107, k120_110, k120_111, k120_114, k120_115, k120_116, k120_117, k120_118, k120_119, k120_120, k120_122, im_t106 hm, im_t107 hm, im_t108 hm, im_t109 hm, im_t110 hm, im_t111 hm, im_t112 hm, im_t113 hm, im_t114 hm, im_t115 hm, im_t116 hm, im_l107 hm, im_l108 hm, im_l109 hm, im_l110 hm, im_l111 hm, im_l112 hm, im_l113 hm, im_l114 hm, im_l115 hm, im_l116 hm, im_r0 hm, im_r1 hm, im_r2 hm, im_r3 hm, im_r5 hm, im_r7 hm, im_r14 hm, im_r15 hm, im_r16 hm, im_r22 hm, rf_s, pushR_s, pushR_n, le4_0, le4_1, le4_2, le4_3, le4_4, isLong_n, isLong_i, isLong_r, isLong_f, if_true, if_false, not_true_eq_false, not_false_eq_true, isI_0, isI_9, isAr_0, isAr_1, isAr_2, isAr_9, okR_i, okR_0, okR_1, putI_0, putI_b0, putI_b1, nI_10, nI_00, Nat.reduceLT, Nat.reduceLeDiff, nI_add, upM_s, upI_s, pk_mul, nf_at, py ha]
    · subst e1 e2
      have il := inI_d (v := z) (a := 1) (b := 20) (by omega) (by omega) h
      simp only [k120_0, k120_1, k120_2, k120_5, k120_8, k120_9, k120_10, k120_13, k120_16, k120_17, k120_18, k120_21, k120_22, k120_23, k120_25, k120_28, k120_31, k120_33, k120_34, k120_35, k120_38, k120_39, k120_40, k120_42, k120_45, k120_47, k120_48, k120_49, k120_52, k120_53, k120_54, k120_56, k120_57, k120_59, k120_60, k120_61, k120_64, k120_65, k120_67, k120_68, k120_69, k120_72, k120_73, k120_75, k120_76, k120_77, k120_80, k120_81, k120_83, k120_84, k120_85, k120_88, k120_90, k120_91, k120_94, k120_95, k120_97, k120_98, k120_99, k120_102, k120_103, k120_105, k120_106, k120_107, k120_110, k120_111, k120_114, k120_115, k120_116, k120_117, k120_118, k120_119, k120_120, k120_122, im_t106 hm, im_t107 hm, im_t108 hm, im_t109 hm, im_t110 hm, im_t111 hm, im_t112 hm, im_t113 hm, im_t114 hm, im_t115 hm, im_t116 hm, im_l107 hm, im_l108 hm, im_l109 hm, im_l110 hm, im_l111 hm, im_l112 hm, im_l113 hm, im_l114 hm, im_l115 hm, im_l116 hm, im_r0 hm, im_r1 hm, im_r2 hm, im_r3 hm, im_r5 hm, im_r7 hm, im_r14 hm, im_r15 hm, im_r16 hm, im_r22 hm, rf_s, pushR_s, pushR_n, le4_0, le4_1, le4_2, le4_3, le4_4, isLong_n, isLong_i, isLong_r, isLong_f, if_true, if_false, not_true_eq_false, not_false_eq_true, isI_0, isI_9, isAr_0, isAr_1, isAr_2, isAr_9, okR_i, okR_0, okR_1, putI_0, putI_b0, putI_b1, nI_10, nI_00, Nat.reduceLT, Nat.reduceLeDiff, nI_add, upM_s, upI_s, pk_mul, nf_at, py ha, py hb, ne, m95, il]
def gClose (s : Nat → Nat) (k c : Nat) : Nat → Nat := upN s (30 + 6 * k + 4) c
def oClose (s : Nat → Nat) (x : Int32) (c : Nat) (r : Int32) (s' : Nat → Nat) : Prop := (∃ k, x = nI k ∧ k < s 1 ∧ (s (30 + 6 * k + 4) = c ∧ r = -1000000002 ∧ s' = s ∨ s (30 + 6 * k + 4) ≠ c ∧ r = nI (sumTo (opn (gClose s k c)) (s 1)) ∧ s' = gClose s k c)) ∨ (¬ ∃ k, k < s 1 ∧ x = nI k) ∧ r = -1000000001 ∧ s' = s
theorem oClose_ex {s : Nat → Nat} (x : Int32) (c : Nat) : ∃ r s', oClose s x c r s' := by
  by_cases h1 : ∃ a, a < s 1 ∧ x = nI a
  · obtain ⟨k, hk, e⟩ := h1
    by_cases h2 : s (30 + 6 * k + 4) = c
    · exact ⟨_, _, Or.inl ⟨k, e, hk, Or.inl ⟨h2, rfl, rfl⟩⟩⟩
    · exact ⟨_, _, Or.inl ⟨k, e, hk, Or.inr ⟨h2, rfl, rfl⟩⟩⟩
  · exact ⟨_, _, Or.inr ⟨h1, rfl, rfl⟩⟩
theorem Inv_close {s : Nat → Nat} (i : Inv s) {k c : Nat} (hk : k < s 1) (hc : c ≤ 1) : Inv (gClose s k c) := by
  obtain ⟨⟨g0, g1, g2⟩, i2, i3, i4, i5⟩ := i
  have lo : ∀ j, j < 30 → gClose s k c j = s j := fun j h => upN_n (by omega)
  refine ⟨⟨by rw [lo 0 (by omega)]; exact g0, by rw [lo 1 (by omega)]; exact g1, fun q hq => ?_⟩, ?_, ?_, by rw [lo 8 (by omega)]; exact i4, ?_⟩
  · rw [lo 1 (by omega)] at hq
    have h := g2 q hq
    have w : ∀ w, w < 4 → gClose s k c (30 + 6 * q + w) = s (30 + 6 * q + w) := fun w hw => upN_n (by omega)
    unfold pOk at h ⊢
    rw [lo 0 (by omega), w 0 (by omega), w 1 (by omega), w 2 (by omega), w 3 (by omega)]
    refine ⟨h.1, h.2.1, h.2.2.1, h.2.2.2.1, h.2.2.2.2.1, h.2.2.2.2.2.1, h.2.2.2.2.2.2.1, ?_⟩
    unfold gClose upN
    split
    · exact hc
    · exact h.2.2.2.2.2.2.2
  · unfold sOk at i2 ⊢
    rw [lo 13 (by omega), lo 14 (by omega), lo 15 (by omega), lo 16 (by omega), lo 17 (by omega), lo 18 (by omega), lo 19 (by omega)]
    exact i2
  · unfold fOk at i3 ⊢
    rw [lo 7 (by omega), lo 0 (by omega)]
    exact i3
  · unfold bOk at i5 ⊢
    rw [lo 7 (by omega), lo 0 (by omega), lo 9 (by omega), lo 10 (by omega), lo 12 (by omega), lo 20 (by omega)]
    refine ⟨fun h9 => ?_, i5.2⟩
    obtain ⟨q1, q2, q3, q4, q5, q6, q7⟩ := i5.1 h9
    exact ⟨q1, q2, q3, q4, q5, q6, fun i hi => by rw [lo (20 + i) (by omega)]; exact q7 i hi⟩
theorem m121 {σ : Sg} {M : Mem} (hm : IsM σ) {s : Nat → Nat} (hs : M 107 = nf s) (i : Inv s) {x r : Int32} {c : Nat} (hc : c ≤ 1) {s' : Nat → Nat} (o : oClose s x c r s') (Q : Po) : wp 121 0 [some (.ref 106), some (.int x), some (.int (nI c))] [] σ M Q = Q (some (.int r)) σ (upM M 107 (nf s')) := by
  have g1 := i.1.2.1
  have self : upM M 107 (nf s) = M := upM_self hs
  rcases o with ⟨k, e, hk, h⟩ | ⟨h, e1, e2⟩
  · subst e
    have py := fun Q => m101y (Q := Q) hm hs (by omega) hk
    have m := fun Q => m102 (M := M) (Q := Q) hm (k := k) (w := 4) (by omega) (by omega)
    have pc := (i.1.2.2 k hk).2.2.2.2.2.2.2
    rcases h with ⟨h1, h2, h3⟩ | ⟨h1, h2, h3⟩
    · rw [h2, h3]
      have ee : nI (s (30 + 6 * k + 4)) = nI c := by rw [h1]
      simp only [k121_0, k121_1, k121_2, k121_5, k121_8, k121_10, k121_11, k121_12, k121_13, k121_14, k121_17, k121_18, k121_21, k121_23, k121_24, k121_25, k121_26, k121_27, k121_28, k121_31, k121_32, k121_35, im_t106 hm, im_t107 hm, im_t108 hm, im_t109 hm, im_t110 hm, im_t111 hm, im_t112 hm, im_t113 hm, im_t114 hm, im_t115 hm, im_t116 hm, im_l107 hm, im_l108 hm, im_l109 hm, im_l110 hm, im_l111 hm, im_l112 hm, im_l113 hm, im_l114 hm, im_l115 hm, im_l116 hm, im_r0 hm, im_r1 hm, im_r2 hm, im_r3 hm, im_r5 hm, im_r7 hm, im_r14 hm, im_r15 hm, im_r16 hm, im_r22 hm, rf_s, pushR_s, pushR_n, le4_0, le4_1, le4_2, le4_3, le4_4, isLong_n, isLong_i, isLong_r, isLong_f, if_true, if_false, not_true_eq_false, not_false_eq_true, isI_0, isI_9, isAr_0, isAr_1, isAr_2, isAr_9, okR_i, okR_0, okR_1, putI_0, putI_b0, putI_b1, nI_10, nI_00, Nat.reduceLT, Nat.reduceLeDiff, nI_add, upM_s, upI_s, pk_mul, nf_at, py, m, hs, ee, self]
    · rw [h2, h3]
      have ee : ¬ nI (s (30 + 6 * k + 4)) = nI c := ne_n (by omega) (by omega) h1
      have m3 := fun x Q => m103 (M := M) (x := x) (Q := Q) hm (k := k) (w := 4) (by omega) (by omega)
      have i' := Inv_close i hk hc
      have e1 : gClose s k c 1 = s 1 := upN_n (by omega)
      have m7 := fun Q => m107 (M := upM M 107 (nf (gClose s k c))) (Q := Q) hm upM_s i'.1
      rw [e1] at m7
      unfold gClose at m7 ⊢
      simp only [k121_0, k121_1, k121_2, k121_5, k121_8, k121_10, k121_11, k121_12, k121_13, k121_14, k121_17, k121_18, k121_21, k121_23, k121_24, k121_25, k121_26, k121_27, k121_28, k121_31, k121_32, k121_35, im_t106 hm, im_t107 hm, im_t108 hm, im_t109 hm, im_t110 hm, im_t111 hm, im_t112 hm, im_t113 hm, im_t114 hm, im_t115 hm, im_t116 hm, im_l107 hm, im_l108 hm, im_l109 hm, im_l110 hm, im_l111 hm, im_l112 hm, im_l113 hm, im_l114 hm, im_l115 hm, im_l116 hm, im_r0 hm, im_r1 hm, im_r2 hm, im_r3 hm, im_r5 hm, im_r7 hm, im_r14 hm, im_r15 hm, im_r16 hm, im_r22 hm, rf_s, pushR_s, pushR_n, le4_0, le4_1, le4_2, le4_3, le4_4, isLong_n, isLong_i, isLong_r, isLong_f, if_true, if_false, not_true_eq_false, not_false_eq_true, isI_0, isI_9, isAr_0, isAr_1, isAr_2, isAr_9, okR_i, okR_0, okR_1, putI_0, putI_b0, putI_b1, nI_10, nI_00, Nat.reduceLT, Nat.reduceLeDiff, nI_add, upM_s, upI_s, pk_mul, nf_at, py, m, hs, ee, m3, upI_nf, m7]
  · rw [e1, e2]
    have pn := fun Q => m101n (Q := Q) hm hs (by omega) h
    rw [self]
    simp only [k121_0, k121_1, k121_2, k121_5, k121_8, k121_10, k121_11, k121_12, k121_13, k121_14, k121_17, k121_18, k121_21, k121_23, k121_24, k121_25, k121_26, k121_27, k121_28, k121_31, k121_32, k121_35, im_t106 hm, im_t107 hm, im_t108 hm, im_t109 hm, im_t110 hm, im_t111 hm, im_t112 hm, im_t113 hm, im_t114 hm, im_t115 hm, im_t116 hm, im_l107 hm, im_l108 hm, im_l109 hm, im_l110 hm, im_l111 hm, im_l112 hm, im_l113 hm, im_l114 hm, im_l115 hm, im_l116 hm, im_r0 hm, im_r1 hm, im_r2 hm, im_r3 hm, im_r5 hm, im_r7 hm, im_r14 hm, im_r15 hm, im_r16 hm, im_r22 hm, rf_s, pushR_s, pushR_n, le4_0, le4_1, le4_2, le4_3, le4_4, isLong_n, isLong_i, isLong_r, isLong_f, if_true, if_false, not_true_eq_false, not_false_eq_true, isI_0, isI_9, isAr_0, isAr_1, isAr_2, isAr_9, okR_i, okR_0, okR_1, putI_0, putI_b0, putI_b1, nI_10, nI_00, Nat.reduceLT, Nat.reduceLeDiff, nI_add, upM_s, upI_s, pk_mul, nf_at, pn]
theorem nI_lit {a b : Nat} (ha : a < 1000000) (hb : b < 1000000) : (nI a = nI b) = (a = b) := propext (nI_eq (by omega) (by omega))
theorem Inv_path {s : Nat → Nat} (i : Inv s) {a b l : Nat} (ha : a < s 0) (hb : b < s 0) (hab : a ≠ b) (h1 : 1 ≤ l) (h2 : l ≤ 20) (h3 : s 1 < 16) : Inv (gPath s a b l) := by
  obtain ⟨⟨g0, g1, g2⟩, i2, i3, i4, i5⟩ := i
  have lo : ∀ j, j < 30 → j ≠ 1 → gPath s a b l j = s j := fun j h h' => by
    unfold gPath
    rw [upN_n h', upN_n (by omega), upN_n (by omega), upN_n (by omega), upN_n (by omega), upN_n (by omega), upN_n (by omega)]
  have old : ∀ q w, q ≠ s 1 → w < 6 → gPath s a b l (30 + 6 * q + w) = s (30 + 6 * q + w) := fun q w h h' => by
    unfold gPath
    rw [upN_n (by omega), upN_n (by omega), upN_n (by omega), upN_n (by omega), upN_n (by omega), upN_n (by omega), upN_n (by omega)]
  have n0 : gPath s a b l (30 + 6 * s 1 + 0) = a := by
    unfold gPath
    rw [upN_n (by omega), upN_n (by omega), upN_n (by omega), upN_n (by omega), upN_n (by omega), upN_n (by omega), upN_s]
  have n1 : gPath s a b l (30 + 6 * s 1 + 1) = b := by
    unfold gPath
    rw [upN_n (by omega), upN_n (by omega), upN_n (by omega), upN_n (by omega), upN_n (by omega), upN_s]
  have n2 : gPath s a b l (30 + 6 * s 1 + 2) = l := by
    unfold gPath
    rw [upN_n (by omega), upN_n (by omega), upN_n (by omega), upN_n (by omega), upN_s]
  have n3 : gPath s a b l (30 + 6 * s 1 + 3) = s 17 := by
    unfold gPath
    rw [upN_n (by omega), upN_n (by omega), upN_n (by omega), upN_s]
  have n4 : gPath s a b l (30 + 6 * s 1 + 4) = 0 := by
    unfold gPath
    rw [upN_n (by omega), upN_n (by omega), upN_s]
  refine ⟨⟨by rw [lo 0 (by omega) (by omega)]; exact g0, show s 1 + 1 ≤ 16 by omega, fun q hq => ?_⟩, ?_, ?_, by rw [lo 8 (by omega) (by omega)]; exact i4, ?_⟩
  · have hq' : q < s 1 + 1 := hq
    unfold pOk
    rw [lo 0 (by omega) (by omega)]
    by_cases c : q = s 1
    · subst c
      rw [n0, n1, n2, n3, n4]
      unfold sOk at i2
      exact ⟨ha, hb, hab, h1, h2, by omega, by omega, by omega⟩
    · rw [old q 0 c (by omega), old q 1 c (by omega), old q 2 c (by omega), old q 3 c (by omega), old q 4 c (by omega)]
      exact g2 q (by omega)
  · unfold sOk at i2 ⊢
    rw [lo 13 (by omega) (by omega), lo 14 (by omega) (by omega), lo 15 (by omega) (by omega), lo 16 (by omega) (by omega), lo 17 (by omega) (by omega), lo 18 (by omega) (by omega), lo 19 (by omega) (by omega)]
    exact i2
  · unfold fOk at i3 ⊢
    rw [lo 7 (by omega) (by omega), lo 0 (by omega) (by omega)]
    exact i3
  · unfold bOk at i5 ⊢
    rw [lo 7 (by omega) (by omega), lo 0 (by omega) (by omega), lo 9 (by omega) (by omega), lo 10 (by omega) (by omega), lo 12 (by omega) (by omega), lo 20 (by omega) (by omega)]
    refine ⟨fun h9 => ?_, i5.2⟩
    obtain ⟨q1, q2, q3, q4, q5, q6, q7⟩ := i5.1 h9
    exact ⟨q1, q2, q3, q4, q5, q6, fun i hi => by rw [lo (20 + i) (by omega) (by omega)]; exact q7 i hi⟩
theorem oPath_inv {s : Nat → Nat} (i : Inv s) {x y z r : Int32} {s' : Nat → Nat} (o : oPath s x y z r s') : Inv s' ∧ (er r ∧ s' = s ∨ nr r) := by
  rcases o with ⟨a, b, l, e1, e2, e3, ha, hb, hab, hl1, hl2, ⟨h1, h2, h3⟩ | ⟨h1, h2, h3⟩⟩ | ⟨h, e4, e5⟩
  · rw [h2, h3]; exact ⟨i, Or.inl ⟨Or.inr (Or.inr (Or.inl rfl)), rfl⟩⟩
  · rw [h2, h3]; exact ⟨Inv_path i ha hb hab hl1 hl2 h1, Or.inr (nr_nI (by omega))⟩
  · rw [e4, e5]; exact ⟨i, Or.inl ⟨Or.inl rfl, rfl⟩⟩
theorem oClose_inv {s : Nat → Nat} (i : Inv s) {x r : Int32} {c : Nat} (hc : c ≤ 1) {s' : Nat → Nat} (o : oClose s x c r s') : Inv s' ∧ (er r ∧ s' = s ∨ nr r) := by
  rcases o with ⟨k, e, hk, ⟨h1, h2, h3⟩ | ⟨h1, h2, h3⟩⟩ | ⟨h, e4, e5⟩
  · rw [h2, h3]; exact ⟨i, Or.inl ⟨Or.inr (Or.inl rfl), rfl⟩⟩
  · rw [h2, h3]
    have h := sumTo_le (f := opn (gClose s k c)) (c := 1) (n := s 1) (fun _ _ => by unfold opn; omega)
    have := i.1.2.1
    exact ⟨Inv_close i hk hc, Or.inr (nr_nI (by omega))⟩
  · rw [e4, e5]; exact ⟨i, Or.inl ⟨Or.inl rfl, rfl⟩⟩
def gFood (s : Nat → Nat) (p : Nat) : Nat → Nat := upN (upN s 7 p) 9 0
def oFood (s : Nat → Nat) (x r : Int32) (s' : Nat → Nat) : Prop := (∃ p, x = nI p ∧ p < s 0 ∧ p ≠ 0 ∧ (s 7 = p ∧ r = -1000000002 ∧ s' = s ∨ s 7 ≠ p ∧ r = nI (s 7) ∧ s' = gFood s p)) ∨ ((¬ ∃ p, p < s 0 ∧ x = nI p) ∨ (∃ p, p < s 0 ∧ x = nI p) ∧ x = nI 0) ∧ r = -1000000001 ∧ s' = s
theorem oFood_ex {s : Nat → Nat} (x : Int32) : ∃ r s', oFood s x r s' := by
  by_cases h1 : ∃ a, a < s 0 ∧ x = nI a
  · have h1' := h1
    obtain ⟨k, hk, e⟩ := h1
    by_cases h0 : k = 0
    · exact ⟨_, _, Or.inr ⟨Or.inr ⟨h1', by rw [e, h0]⟩, rfl, rfl⟩⟩
    · by_cases h2 : s 7 = k
      · exact ⟨_, _, Or.inl ⟨k, e, hk, h0, Or.inl ⟨h2, rfl, rfl⟩⟩⟩
      · exact ⟨_, _, Or.inl ⟨k, e, hk, h0, Or.inr ⟨h2, rfl, rfl⟩⟩⟩
  · exact ⟨_, _, Or.inr ⟨Or.inl h1, rfl, rfl⟩⟩
theorem oFood_inv {s : Nat → Nat} (i : Inv s) {x r : Int32} {s' : Nat → Nat} (o : oFood s x r s') : Inv s' ∧ (er r ∧ s' = s ∨ nr r) := by
  rcases o with ⟨p, e, hp, h0, ⟨h1, h2, h3⟩ | ⟨h1, h2, h3⟩⟩ | ⟨h, e4, e5⟩
  · rw [h2, h3]; exact ⟨i, Or.inl ⟨Or.inr (Or.inl rfl), rfl⟩⟩
  · rw [h2, h3]
    obtain ⟨⟨g0, g1, g2⟩, i2, i3, i4, i5⟩ := i
    have hr := i3.2.1
    refine ⟨⟨⟨g0, g1, fun q hq => ?_⟩, i2, ⟨?_, ?_, Or.inl hp⟩, i4, ⟨fun h9 => absurd rfl h9, i5.2⟩⟩, Or.inr (nr_nI (by omega))⟩
    · have w : ∀ w, gFood s p (30 + 6 * q + w) = s (30 + 6 * q + w) := fun w => by
        unfold gFood
        rw [upN_n (by omega), upN_n (by omega)]
      unfold pOk
      rw [w 0, w 1, w 2, w 3, w 4]
      exact g2 q hq
    · show 0 < p; omega
    · show p < 10; omega
  · rw [e4, e5]; exact ⟨i, Or.inl ⟨Or.inl rfl, rfl⟩⟩
theorem m122 {σ : Sg} {M : Mem} (hm : IsM σ) {s : Nat → Nat} (hs : M 107 = nf s) (i : Inv s) {x r : Int32} {s' : Nat → Nat} (o : oFood s x r s') (Q : Po) : wp 122 0 [some (.ref 106), some (.int x), none] [] σ M Q = Q (some (.int r)) σ (upM M 107 (nf s')) := by
  have g0 := i.1.1
  have f := i.2.2.1.2.1
  have self : upM M 107 (nf s) = M := upM_self hs
  have py := fun {p} (h : p < s 0) Q => m100y (Q := Q) hm hs (by omega) h
  have pn := fun {v} (h : ¬ ∃ p, p < s 0 ∧ v = nI p) Q => m100n (Q := Q) hm hs (by omega) h
  rcases o with ⟨p, e, hp, h0, ⟨h1, h2, h3⟩ | ⟨h1, h2, h3⟩⟩ | ⟨h, e4, e5⟩
  · rw [h2, h3, self]
    subst e
    have z : ¬ nI p = 0 := nI_ne0 (by omega) (by omega)
    have z2 : nI (s 7) = nI p := by rw [h1]
    simp only [k122_0, k122_1, k122_2, k122_5, k122_8, k122_9, k122_12, k122_14, k122_15, k122_16, k122_19, k122_21, k122_22, k122_23, k122_26, k122_28, k122_29, k122_30, k122_33, k122_35, k122_36, k122_37, k122_38, k122_41, k122_43, k122_44, k122_45, k122_46, k122_49, k122_51, k122_52, k122_53, k122_54, im_t106 hm, im_t107 hm, im_t108 hm, im_t109 hm, im_t110 hm, im_t111 hm, im_t112 hm, im_t113 hm, im_t114 hm, im_t115 hm, im_t116 hm, im_l107 hm, im_l108 hm, im_l109 hm, im_l110 hm, im_l111 hm, im_l112 hm, im_l113 hm, im_l114 hm, im_l115 hm, im_l116 hm, im_r0 hm, im_r1 hm, im_r2 hm, im_r3 hm, im_r5 hm, im_r7 hm, im_r14 hm, im_r15 hm, im_r16 hm, im_r22 hm, rf_s, pushR_s, pushR_n, le4_0, le4_1, le4_2, le4_3, le4_4, isLong_n, isLong_i, isLong_r, isLong_f, if_true, if_false, not_true_eq_false, not_false_eq_true, isI_0, isI_9, isAr_0, isAr_1, isAr_2, isAr_9, okR_i, okR_0, okR_1, putI_0, putI_b0, putI_b1, nI_10, nI_00, Nat.reduceLT, Nat.reduceLeDiff, nI_add, upM_s, upI_s, pk_mul, nf_at, py hp, z, hs, z2]
  · rw [h2, h3]
    subst e
    have z : ¬ nI p = 0 := nI_ne0 (by omega) (by omega)
    have z2 : ¬ nI (s 7) = nI p := ne_n (by omega) (by omega) h1
    simp only [k122_0, k122_1, k122_2, k122_5, k122_8, k122_9, k122_12, k122_14, k122_15, k122_16, k122_19, k122_21, k122_22, k122_23, k122_26, k122_28, k122_29, k122_30, k122_33, k122_35, k122_36, k122_37, k122_38, k122_41, k122_43, k122_44, k122_45, k122_46, k122_49, k122_51, k122_52, k122_53, k122_54, im_t106 hm, im_t107 hm, im_t108 hm, im_t109 hm, im_t110 hm, im_t111 hm, im_t112 hm, im_t113 hm, im_t114 hm, im_t115 hm, im_t116 hm, im_l107 hm, im_l108 hm, im_l109 hm, im_l110 hm, im_l111 hm, im_l112 hm, im_l113 hm, im_l114 hm, im_l115 hm, im_l116 hm, im_r0 hm, im_r1 hm, im_r2 hm, im_r3 hm, im_r5 hm, im_r7 hm, im_r14 hm, im_r15 hm, im_r16 hm, im_r22 hm, rf_s, pushR_s, pushR_n, le4_0, le4_1, le4_2, le4_3, le4_4, isLong_n, isLong_i, isLong_r, isLong_f, if_true, if_false, not_true_eq_false, not_false_eq_true, isI_0, isI_9, isAr_0, isAr_1, isAr_2, isAr_9, okR_i, okR_0, okR_1, putI_0, putI_b0, putI_b1, nI_10, nI_00, Nat.reduceLT, Nat.reduceLeDiff, nI_add, upM_s, upI_s, pk_mul, nf_at, py hp, z, hs, z2, upI_nf, upM_up, gFood]
  · rw [e4, e5, self]
    rcases h with h | ⟨⟨p, hp, e⟩, h⟩
    · simp only [k122_0, k122_1, k122_2, k122_5, k122_8, k122_9, k122_12, k122_14, k122_15, k122_16, k122_19, k122_21, k122_22, k122_23, k122_26, k122_28, k122_29, k122_30, k122_33, k122_35, k122_36, k122_37, k122_38, k122_41, k122_43, k122_44, k122_45, k122_46, k122_49, k122_51, k122_52, k122_53, k122_54, im_t106 hm, im_t107 hm, im_t108 hm, im_t109 hm, im_t110 hm, im_t111 hm, im_t112 hm, im_t113 hm, im_t114 hm, im_t115 hm, im_t116 hm, im_l107 hm, im_l108 hm, im_l109 hm, im_l110 hm, im_l111 hm, im_l112 hm, im_l113 hm, im_l114 hm, im_l115 hm, im_l116 hm, im_r0 hm, im_r1 hm, im_r2 hm, im_r3 hm, im_r5 hm, im_r7 hm, im_r14 hm, im_r15 hm, im_r16 hm, im_r22 hm, rf_s, pushR_s, pushR_n, le4_0, le4_1, le4_2, le4_3, le4_4, isLong_n, isLong_i, isLong_r, isLong_f, if_true, if_false, not_true_eq_false, not_false_eq_true, isI_0, isI_9, isAr_0, isAr_1, isAr_2, isAr_9, okR_i, okR_0, okR_1, putI_0, putI_b0, putI_b1, nI_10, nI_00, Nat.reduceLT, Nat.reduceLeDiff, nI_add, upM_s, upI_s, pk_mul, nf_at, pn h]
    · subst h
      have hp0 : 0 < s 0 := by omega
      simp only [k122_0, k122_1, k122_2, k122_5, k122_8, k122_9, k122_12, k122_14, k122_15, k122_16, k122_19, k122_21, k122_22, k122_23, k122_26, k122_28, k122_29, k122_30, k122_33, k122_35, k122_36, k122_37, k122_38, k122_41, k122_43, k122_44, k122_45, k122_46, k122_49, k122_51, k122_52, k122_53, k122_54, im_t106 hm, im_t107 hm, im_t108 hm, im_t109 hm, im_t110 hm, im_t111 hm, im_t112 hm, im_t113 hm, im_t114 hm, im_t115 hm, im_t116 hm, im_l107 hm, im_l108 hm, im_l109 hm, im_l110 hm, im_l111 hm, im_l112 hm, im_l113 hm, im_l114 hm, im_l115 hm, im_l116 hm, im_r0 hm, im_r1 hm, im_r2 hm, im_r3 hm, im_r5 hm, im_r7 hm, im_r14 hm, im_r15 hm, im_r16 hm, im_r22 hm, rf_s, pushR_s, pushR_n, le4_0, le4_1, le4_2, le4_3, le4_4, isLong_n, isLong_i, isLong_r, isLong_f, if_true, if_false, not_true_eq_false, not_false_eq_true, isI_0, isI_9, isAr_0, isAr_1, isAr_2, isAr_9, okR_i, okR_0, okR_1, putI_0, putI_b0, putI_b1, nI_10, nI_00, Nat.reduceLT, Nat.reduceLeDiff, nI_add, upM_s, upI_s, pk_mul, nf_at, py hp0]
def oLap (s : Nat → Nat) (x r : Int32) (s' : Nat → Nat) : Prop := (∃ n, x = nI n ∧ 1 ≤ n ∧ n ≤ 5 ∧ (s 0 < 2 ∧ r = -1000000002 ∧ s' = s ∨ 2 ≤ s 0 ∧ r = nI (lapN s n 4 - s 4) ∧ s' = lapN s n)) ∨ (¬ ∃ n, 1 ≤ n ∧ n ≤ 5 ∧ x = nI n) ∧ r = -1000000001 ∧ s' = s
theorem oLap_ex {s : Nat → Nat} (x : Int32) : ∃ r s', oLap s x r s' := by
  by_cases h1 : ∃ n, 1 ≤ n ∧ n ≤ 5 ∧ x = nI n
  · obtain ⟨n, n1, n5, e⟩ := h1
    by_cases h2 : s 0 < 2
    · exact ⟨_, _, Or.inl ⟨n, e, n1, n5, Or.inl ⟨h2, rfl, rfl⟩⟩⟩
    · exact ⟨_, _, Or.inl ⟨n, e, n1, n5, Or.inr ⟨by omega, rfl, rfl⟩⟩⟩
  · exact ⟨_, _, Or.inr ⟨h1, rfl, rfl⟩⟩
theorem oLap_inv {s : Nat → Nat} (i : Inv s) {x r : Int32} {s' : Nat → Nat} (o : oLap s x r s') : Inv s' ∧ (er r ∧ s' = s ∨ nr r) := by
  rcases o with ⟨n, e, n1, n5, ⟨h1, h2, h3⟩ | ⟨h1, h2, h3⟩⟩ | ⟨h, e4, e5⟩
  · rw [h2, h3]; exact ⟨i, Or.inl ⟨Or.inr (Or.inl rfl), rfl⟩⟩
  · rw [h2, h3]
    obtain ⟨a, b, c, d⟩ := lapN_ok i h1 n
    exact ⟨a, Or.inr (nr_nI (by omega))⟩
  · rw [e4, e5]; exact ⟨i, Or.inl ⟨Or.inl rfl, rfl⟩⟩
theorem m123 {σ : Sg} {M : Mem} (hm : IsM σ) {s : Nat → Nat} (hs : M 107 = nf s) (i : Inv s) {x r : Int32} {s' : Nat → Nat} (o : oLap s x r s') : ∃ M' : Mem, (∀ Q, wp 123 0 [some (.ref 106), some (.int x), none] [] σ M Q = Q (some (.int r)) σ M') ∧ M' 107 = nf s' ∧ (∀ o, o ≠ 106 → o ≠ 107 → o ≠ 113 → o ≠ 114 → o ≠ 115 → M' o = M o) ∧ (∀ i, i < 8 ∨ 13 < i → M' 106 i = M 106 i) := by
  have g0 := i.1.1
  rcases o with ⟨n, e, n1, n5, ⟨h1, h2, h3⟩ | ⟨h1, h2, h3⟩⟩ | ⟨h, e4, e5⟩
  · refine ⟨M, fun Q => ?_, by rw [h3]; exact hs, fun _ _ _ _ _ _ => rfl, fun _ _ => rfl⟩
    have il := inI_c (v := x) (a := 1) (b := 5) (by omega) (by omega) n1 n5 e
    have z : nI (s 0) < nI 2 := nI_lt h1 (by omega)
    rw [h2]
    simp only [k123_0, k123_1, k123_2, k123_3, k123_6, k123_9, k123_11, k123_12, k123_13, k123_16, k123_17, k123_18, k123_19, k123_22, k123_24, k123_25, k123_26, k123_29, k123_30, k123_31, k123_32, k123_33, k123_34, k123_37, k123_38, k123_41, k123_42, k123_43, k123_44, k123_45, im_t106 hm, im_t107 hm, im_t108 hm, im_t109 hm, im_t110 hm, im_t111 hm, im_t112 hm, im_t113 hm, im_t114 hm, im_t115 hm, im_t116 hm, im_l107 hm, im_l108 hm, im_l109 hm, im_l110 hm, im_l111 hm, im_l112 hm, im_l113 hm, im_l114 hm, im_l115 hm, im_l116 hm, im_r0 hm, im_r1 hm, im_r2 hm, im_r3 hm, im_r5 hm, im_r7 hm, im_r14 hm, im_r15 hm, im_r16 hm, im_r22 hm, rf_s, pushR_s, pushR_n, le4_0, le4_1, le4_2, le4_3, le4_4, isLong_n, isLong_i, isLong_r, isLong_f, if_true, if_false, not_true_eq_false, not_false_eq_true, isI_0, isI_9, isAr_0, isAr_1, isAr_2, isAr_9, okR_i, okR_0, okR_1, putI_0, putI_b0, putI_b1, nI_10, nI_00, Nat.reduceLT, Nat.reduceLeDiff, nI_add, upM_s, upI_s, pk_mul, nf_at, m95, il, hs, z]
  · obtain ⟨j1, j2, j3, j4⟩ := lapN_ok i h1 n
    obtain ⟨M', a1, a2, a3, a4⟩ := m119 hm hs i h1 (n := n) (by omega)
    refine ⟨M', fun Q => ?_, by rw [h3]; exact a2, a3, a4⟩
    have il := inI_c (v := x) (a := 1) (b := 5) (by omega) (by omega) n1 n5 e
    have z : ¬ nI (s 0) < nI 2 := nI_nlt h1 (by omega)
    subst e
    have d := pk_sub j3
    rw [h2]
    simp only [k123_0, k123_1, k123_2, k123_3, k123_6, k123_9, k123_11, k123_12, k123_13, k123_16, k123_17, k123_18, k123_19, k123_22, k123_24, k123_25, k123_26, k123_29, k123_30, k123_31, k123_32, k123_33, k123_34, k123_37, k123_38, k123_41, k123_42, k123_43, k123_44, k123_45, im_t106 hm, im_t107 hm, im_t108 hm, im_t109 hm, im_t110 hm, im_t111 hm, im_t112 hm, im_t113 hm, im_t114 hm, im_t115 hm, im_t116 hm, im_l107 hm, im_l108 hm, im_l109 hm, im_l110 hm, im_l111 hm, im_l112 hm, im_l113 hm, im_l114 hm, im_l115 hm, im_l116 hm, im_r0 hm, im_r1 hm, im_r2 hm, im_r3 hm, im_r5 hm, im_r7 hm, im_r14 hm, im_r15 hm, im_r16 hm, im_r22 hm, rf_s, pushR_s, pushR_n, le4_0, le4_1, le4_2, le4_3, le4_4, isLong_n, isLong_i, isLong_r, isLong_f, if_true, if_false, not_true_eq_false, not_false_eq_true, isI_0, isI_9, isAr_0, isAr_1, isAr_2, isAr_9, okR_i, okR_0, okR_1, putI_0, putI_b0, putI_b1, nI_10, nI_00, Nat.reduceLT, Nat.reduceLeDiff, nI_add, upM_s, upI_s, pk_mul, nf_at, m95, il, hs, z, a1, a2, d]
  · refine ⟨M, fun Q => ?_, by rw [e5]; exact hs, fun _ _ _ _ _ _ => rfl, fun _ _ => rfl⟩
    have il := inI_d (v := x) (a := 1) (b := 5) (by omega) (by omega) h
    rw [e4]
    simp only [k123_0, k123_1, k123_2, k123_3, k123_6, k123_9, k123_11, k123_12, k123_13, k123_16, k123_17, k123_18, k123_19, k123_22, k123_24, k123_25, k123_26, k123_29, k123_30, k123_31, k123_32, k123_33, k123_34, k123_37, k123_38, k123_41, k123_42, k123_43, k123_44, k123_45, im_t106 hm, im_t107 hm, im_t108 hm, im_t109 hm, im_t110 hm, im_t111 hm, im_t112 hm, im_t113 hm, im_t114 hm, im_t115 hm, im_t116 hm, im_l107 hm, im_l108 hm, im_l109 hm, im_l110 hm, im_l111 hm, im_l112 hm, im_l113 hm, im_l114 hm, im_l115 hm, im_l116 hm, im_r0 hm, im_r1 hm, im_r2 hm, im_r3 hm, im_r5 hm, im_r7 hm, im_r14 hm, im_r15 hm, im_r16 hm, im_r22 hm, rf_s, pushR_s, pushR_n, le4_0, le4_1, le4_2, le4_3, le4_4, isLong_n, isLong_i, isLong_r, isLong_f, if_true, if_false, not_true_eq_false, not_false_eq_true, isI_0, isI_9, isAr_0, isAr_1, isAr_2, isAr_9, okR_i, okR_0, okR_1, putI_0, putI_b0, putI_b1, nI_10, nI_00, Nat.reduceLT, Nat.reduceLeDiff, nI_add, upM_s, upI_s, pk_mul, nf_at, m95, il]
