/-! the orders: what each answers and leaves -/
def gPath (s : Nat → Nat) (a b l : Nat) : Nat → Nat := upN (upN (upN (upN (upN (upN (upN s (30 + 6 * s 1 + 0) a) (30 + 6 * s 1 + 1) b) (30 + 6 * s 1 + 2) l) (30 + 6 * s 1 + 3) (s 17)) (30 + 6 * s 1 + 4) 0) (30 + 6 * s 1 + 5) 0) 1 (s 1 + 1)
def oPath (s : Nat → Nat) (x y z r : Int32) (s' : Nat → Nat) : Prop := (∃ a b l, x = nI a ∧ y = nI b ∧ z = nI l ∧ a < s 0 ∧ b < s 0 ∧ a ≠ b ∧ 1 ≤ l ∧ l ≤ 20 ∧ (s 1 = 16 ∧ r = -1000000003 ∧ s' = s ∨ s 1 < 16 ∧ r = nI (s 1) ∧ s' = gPath s a b l)) ∨ ((¬ ∃ a, a < s 0 ∧ x = nI a) ∨ (∃ a, a < s 0 ∧ x = nI a) ∧ (¬ ∃ b, b < s 0 ∧ y = nI b) ∨ (∃ a, a < s 0 ∧ x = nI a) ∧ (∃ b, b < s 0 ∧ y = nI b) ∧ x = y ∨ (∃ a, a < s 0 ∧ x = nI a) ∧ (∃ b, b < s 0 ∧ y = nI b) ∧ x ≠ y ∧ ¬ ∃ l, 1 ≤ l ∧ l ≤ 20 ∧ z = nI l) ∧ r = -1000000001 ∧ s' = s
theorem oPath_ex {s : Nat → Nat} (i : Inv s) (x y z : Int32) : ∃ r s', oPath s x y z r s' := by
  have g1 := i.1.2.1
  by_cases h1 : ∃ a, a < s 0 ∧ x = nI a
  · by_cases h2 : ∃ b, b < s 0 ∧ y = nI b
    · by_cases h3 : x = y
      · exact ⟨_, _, Or.inr ⟨Or.inr (Or.inr (Or.inl ⟨h1, h2, h3⟩)), rfl, rfl⟩⟩
      · by_cases h4 : ∃ l, 1 ≤ l ∧ l ≤ 20 ∧ z = nI l
        · obtain ⟨a, ha, e1⟩ := h1
          obtain ⟨b, hb, e2⟩ := h2
          obtain ⟨l, hl1, hl2, e3⟩ := h4
          have hab : a ≠ b := fun e => h3 (by rw [e1, e2, e])
          by_cases h5 : s 1 = 16
          · exact ⟨_, _, Or.inl ⟨a, b, l, e1, e2, e3, ha, hb, hab, hl1, hl2, Or.inl ⟨h5, rfl, rfl⟩⟩⟩
          · exact ⟨_, _, Or.inl ⟨a, b, l, e1, e2, e3, ha, hb, hab, hl1, hl2, Or.inr ⟨by omega, rfl, rfl⟩⟩⟩
        · exact ⟨_, _, Or.inr ⟨Or.inr (Or.inr (Or.inr ⟨h1, h2, h3, h4⟩)), rfl, rfl⟩⟩
    · exact ⟨_, _, Or.inr ⟨Or.inr (Or.inl ⟨h1, h2⟩), rfl, rfl⟩⟩
  · exact ⟨_, _, Or.inr ⟨Or.inl h1, rfl, rfl⟩⟩
theorem inI_c {v : Int32} {a b n : Nat} (ha : a < 2 ^ 31) (hb : b < 2 ^ 31) (h1 : a ≤ n) (h2 : n ≤ b) (e : v = nI n) : inI v (nI a) (nI b) = nI 1 := by
  unfold inI
  subst e
  rw [if_neg (nI_nlt h1 (by omega)), if_neg (nI_nlt h2 hb)]
theorem inI_d {v : Int32} {a b : Nat} (ha : a < 2 ^ 31) (hb : b + 1 < 2 ^ 31) (h : ¬ ∃ n, a ≤ n ∧ n ≤ b ∧ v = nI n) : inI v (nI a) (nI b) = nI 0 := by
  unfold inI
  by_cases c : v < nI a
  · rw [if_pos c]
  · have h9 : nI b < v := by
      rcases pk_ix v hb with h1 | h1 | ⟨j, hj, e⟩
      · exfalso
        have h2 := Int32.lt_iff_toInt_lt.1 h1
        have h0 : (0 : Int32).toInt = 0 := by decide
        exact c (Int32.lt_iff_toInt_lt.2 (by rw [nI_toInt ha]; omega))
      · have h2 := Int32.le_iff_toInt_le.1 h1
        rw [nI_toInt hb] at h2
        exact Int32.lt_iff_toInt_lt.2 (by rw [nI_toInt (by omega)]; omega)
      · exfalso
        apply h
        refine ⟨j, ?_, by omega, e⟩
        by_cases c2 : a ≤ j
        · exact c2
        · exact absurd (by rw [e]; exact nI_lt (by omega) (by omega)) c
    rw [if_neg c, if_pos h9]
theorem m120 {σ : Sg} {M : Mem} (hm : IsM σ) {s : Nat → Nat} (hs : M 107 = nf s) (i : Inv s) {x y z r : Int32} {s' : Nat → Nat} (o : oPath s x y z r s') (Q : Po) : wp 120 0 [some (.ref 106), some (.int x), some (.int y), some (.int z), none] [] σ M Q = Q (some (.int r)) σ (upM M 107 (nf s')) := by
  have g0 := i.1.1
  have g1 := i.1.2.1
  have self : upM M 107 (nf s) = M := upM_self hs
  have py := fun {p} (h : p < s 0) Q => m100y (Q := Q) hm hs (by omega) h
  have pn := fun {v} (h : ¬ ∃ p, p < s 0 ∧ v = nI p) Q => m100n (Q := Q) hm hs (by omega) h
  rcases o with ⟨a, b, l, e1, e2, e3, ha, hb, hab, hl1, hl2, h⟩ | ⟨h, e4, e5⟩
  · subst e1 e2 e3
    have ne : ¬ nI a = nI b := ne_n (by omega) (by omega) hab
    have il := inI_c (v := nI l) (a := 1) (b := 20) (by omega) (by omega) hl1 hl2 rfl
    rcases h with ⟨h1, h2, h3⟩ | ⟨h1, h2, h3⟩
    · rw [h2, h3]
      simp only [k120_0, k120_1, k120_2, k120_5, k120_8, k120_9, k120_10, k120_13, k120_16, k120_17, k120_18, k120_21, k120_22, k120_23, k120_25, k120_28, k120_31, k120_33, k120_34, k120_35, k120_38, k120_39, k120_40, k120_42, k120_45, k120_47, k120_48, k120_49, k120_52, k120_53, k120_54, k120_56, k120_57, k120_59, k120_60, k120_61, k120_64, k120_65, k120_67, k120_68, k120_69, k120_72, k120_73, k120_75, k120_76, k120_77, k120_80, k120_81, k120_83, k120_84, k120_85, k120_88, k120_90, k120_91, k120_94, k120_95, k120_97, k120_98, k120_99, k120_102, k120_103, k120_105, k120_106, k120_107, k120_110, k120_111, k120_114, k120_115, k120_116, k120_117, k120_118, k120_119, k120_120, k120_122, im_t106 hm, im_t107 hm, im_t108 hm, im_t109 hm, im_t110 hm, im_t111 hm, im_t112 hm, im_t113 hm, im_t114 hm, im_t115 hm, im_t116 hm, im_l107 hm, im_l108 hm, im_l109 hm, im_l110 hm, im_l111 hm, im_l112 hm, im_l113 hm, im_l114 hm, im_l115 hm, im_l116 hm, im_r0 hm, im_r1 hm, im_r2 hm, im_r3 hm, im_r5 hm, im_r7 hm, im_r14 hm, im_r15 hm, im_r16 hm, im_r22 hm, rf_s, pushR_s, pushR_n, le4_0, le4_1, le4_2, le4_3, le4_4, isLong_n, isLong_i, isLong_r, isLong_f, if_true, if_false, not_true_eq_false, not_false_eq_true, isI_0, isI_9, isAr_0, isAr_1, isAr_2, isAr_9, okR_i, okR_0, okR_1, putI_0, putI_b0, putI_b1, nI_10, nI_00, Nat.reduceLT, Nat.reduceLeDiff, nI_add, upM_s, upI_s, pk_mul, nf_at, py ha, py hb, ne, m95, il, hs, h1, self]
    · rw [h2, h3]
      have n16 : ¬ nI (s 1) = nI 16 := ne_n (by omega) (by omega) (by omega)
      have mm : ∀ {M : Mem} {w : Nat} {x : Int32} (hw : w < 6) (Q : Po), wp 103 0 [some (.ref 106), some (.int (nI (s 1))), some (.int (nI w)), some (.int x)] [] σ M Q = Q none σ (upM M 107 (upI (M 107) (30 + 6 * s 1 + w) x)) := fun hw Q => m103 hm h1 hw Q
      have q0 := fun (M : Mem) (x : Int32) Q => mm (M := M) (x := x) (w := 0) (by omega) Q
      have q1 := fun (M : Mem) (x : Int32) Q => mm (M := M) (x := x) (w := 1) (by omega) Q
      have q2 := fun (M : Mem) (x : Int32) Q => mm (M := M) (x := x) (w := 2) (by omega) Q
      have q3 := fun (M : Mem) (x : Int32) Q => mm (M := M) (x := x) (w := 3) (by omega) Q
      have q4 := fun (M : Mem) (x : Int32) Q => mm (M := M) (x := x) (w := 4) (by omega) Q
      have q5 := fun (M : Mem) (x : Int32) Q => mm (M := M) (x := x) (w := 5) (by omega) Q
      have r1 : ∀ {f : Nat → Nat} {w v : Nat}, upN f (30 + 6 * s 1 + w) v 1 = f 1 := fun {f w v} => upN_n (by omega)
      have r17 : ∀ {f : Nat → Nat} {w v : Nat}, upN f (30 + 6 * s 1 + w) v 17 = f 17 := fun {f w v} => upN_n (by omega)
      simp only [k120_0, k120_1, k120_2, k120_5, k120_8, k120_9, k120_10, k120_13, k120_16, k120_17, k120_18, k120_21, k120_22, k120_23, k120_25, k120_28, k120_31, k120_33, k120_34, k120_35, k120_38, k120_39, k120_40, k120_42, k120_45, k120_47, k120_48, k120_49, k120_52, k120_53, k120_54, k120_56, k120_57, k120_59, k120_60, k120_61, k120_64, k120_65, k120_67, k120_68, k120_69, k120_72, k120_73, k120_75, k120_76, k120_77, k120_80, k120_81, k120_83, k120_84, k120_85, k120_88, k120_90, k120_91, k120_94, k120_95, k120_97, k120_98, k120_99, k120_102, k120_103, k120_105, k120_106, k120_107, k120_110, k120_111, k120_114, k120_115, k120_116, k120_117, k120_118, k120_119, k120_120, k120_122, im_t106 hm, im_t107 hm, im_t108 hm, im_t109 hm, im_t110 hm, im_t111 hm, im_t112 hm, im_t113 hm, im_t114 hm, im_t115 hm, im_t116 hm, im_l107 hm, im_l108 hm, im_l109 hm, im_l110 hm, im_l111 hm, im_l112 hm, im_l113 hm, im_l114 hm, im_l115 hm, im_l116 hm, im_r0 hm, im_r1 hm, im_r2 hm, im_r3 hm, im_r5 hm, im_r7 hm, im_r14 hm, im_r15 hm, im_r16 hm, im_r22 hm, rf_s, pushR_s, pushR_n, le4_0, le4_1, le4_2, le4_3, le4_4, isLong_n, isLong_i, isLong_r, isLong_f, if_true, if_false, not_true_eq_false, not_false_eq_true, isI_0, isI_9, isAr_0, isAr_1, isAr_2, isAr_9, okR_i, okR_0, okR_1, putI_0, putI_b0, putI_b1, nI_10, nI_00, Nat.reduceLT, Nat.reduceLeDiff, nI_add, upM_s, upI_s, pk_mul, nf_at, py ha, py hb, ne, m95, il, hs, n16, q0, q1, q2, q3, q4, q5, upI_nf, upM_up, r1, r17, gPath]
  · rw [e4, e5, self]
    rcases h with h | ⟨⟨a, ha, e1⟩, h⟩ | ⟨⟨a, ha, e1⟩, ⟨b, hb, e2⟩, h⟩ | ⟨⟨a, ha, e1⟩, ⟨b, hb, e2⟩, ne, h⟩
    · simp only [k120_0, k120_1, k120_2, k120_5, k120_8, k120_9, k120_10, k120_13, k120_16, k120_17, k120_18, k120_21, k120_22, k120_23, k120_25, k120_28, k120_31, k120_33, k120_34, k120_35, k120_38, k120_39, k120_40, k120_42, k120_45, k120_47, k120_48, k120_49, k120_52, k120_53, k120_54, k120_56, k120_57, k120_59, k120_60, k120_61, k120_64, k120_65, k120_67, k120_68, k120_69, k120_72, k120_73, k120_75, k120_76, k120_77, k120_80, k120_81, k120_83, k120_84, k120_85, k120_88, k120_90, k120_91, k120_94, k120_95, k120_97, k120_98, k120_99, k120_102, k120_103, k120_105, k120_106, k120_107, k120_110, k120_111, k120_114, k120_115, k120_116, k120_117, k120_118, k120_119, k120_120, k120_122, im_t106 hm, im_t107 hm, im_t108 hm, im_t109 hm, im_t110 hm, im_t111 hm, im_t112 hm, im_t113 hm, im_t114 hm, im_t115 hm, im_t116 hm, im_l107 hm, im_l108 hm, im_l109 hm, im_l110 hm, im_l111 hm, im_l112 hm, im_l113 hm, im_l114 hm, im_l115 hm, im_l116 hm, im_r0 hm, im_r1 hm, im_r2 hm, im_r3 hm, im_r5 hm, im_r7 hm, im_r14 hm, im_r15 hm, im_r16 hm, im_r22 hm, rf_s, pushR_s, pushR_n, le4_0, le4_1, le4_2, le4_3, le4_4, isLong_n, isLong_i, isLong_r, isLong_f, if_true, if_false, not_true_eq_false, not_false_eq_true, isI_0, isI_9, isAr_0, isAr_1, isAr_2, isAr_9, okR_i, okR_0, okR_1, putI_0, putI_b0, putI_b1, nI_10, nI_00, Nat.reduceLT, Nat.reduceLeDiff, nI_add, upM_s, upI_s, pk_mul, nf_at, pn h]
    · subst e1
      simp only [k120_0, k120_1, k120_2, k120_5, k120_8, k120_9, k120_10, k120_13, k120_16, k120_17, k120_18, k120_21, k120_22, k120_23, k120_25, k120_28, k120_31, k120_33, k120_34, k120_35, k120_38, k120_39, k120_40, k120_42, k120_45, k120_47, k120_48, k120_49, k120_52, k120_53, k120_54, k120_56, k120_57, k120_59, k120_60, k120_61, k120_64, k120_65, k120_67, k120_68, k120_69, k120_72, k120_73, k120_75, k120_76, k120_77, k120_80, k120_81, k120_83, k120_84, k120_85, k120_88, k120_90, k120_91, k120_94, k120_95, k120_97, k120_98, k120_99, k120_102, k120_103, k120_105, k120_106, k120_107, k120_110, k120_111, k120_114, k120_115, k120_116, k120_117, k120_118, k120_119, k120_120, k120_122, im_t106 hm, im_t107 hm, im_t108 hm, im_t109 hm, im_t110 hm, im_t111 hm, im_t112 hm, im_t113 hm, im_t114 hm, im_t115 hm, im_t116 hm, im_l107 hm, im_l108 hm, im_l109 hm, im_l110 hm, im_l111 hm, im_l112 hm, im_l113 hm, im_l114 hm, im_l115 hm, im_l116 hm, im_r0 hm, im_r1 hm, im_r2 hm, im_r3 hm, im_r5 hm, im_r7 hm, im_r14 hm, im_r15 hm, im_r16 hm, im_r22 hm, rf_s, pushR_s, pushR_n, le4_0, le4_1, le4_2, le4_3, le4_4, isLong_n, isLong_i, isLong_r, isLong_f, if_true, if_false, not_true_eq_false, not_false_eq_true, isI_0, isI_9, isAr_0, isAr_1, isAr_2, isAr_9, okR_i, okR_0, okR_1, putI_0, putI_b0, putI_b1, nI_10, nI_00, Nat.reduceLT, Nat.reduceLeDiff, nI_add, upM_s, upI_s, pk_mul, nf_at, py ha, pn h]
    · subst e1
      subst h
      simp only [k120_0, k120_1, k120_2, k120_5, k120_8, k120_9, k120_10, k120_13, k120_16, k120_17, k120_18, k120_21, k120_22, k120_23, k120_25, k120_28, k120_31, k120_33, k120_34, k120_35, k120_38, k120_39, k120_40, k120_42, k120_45, k120_47, k120_48, k120_49, k120_52, k120_53, k120_54, k120_56, k120_57, k120_59, k120_60, k120_61, k120_64, k120_65, k120_67, k120_68, k120_69, k120_72, k120_73, k120_75, k120_76, k120_77, k120_80, k120_81, k120_83, k120_84, k120_85, k120_88, k120_90, k120_91, k120_94, k120_95, k120_97, k120_98, k120_99, k120_102, k120_103, k120_105, k120_106, k120_107, k120_110, k120_111, k120_114, k120_115, k120_116, k120_117, k120_118, k120_119, k120_120, k120_122, im_t106 hm, im_t107 hm, im_t108 hm, im_t109 hm, im_t110 hm, im_t111 hm, im_t112 hm, im_t113 hm, im_t114 hm, im_t115 hm, im_t116 hm, im_l107 hm, im_l108 hm, im_l109 hm, im_l110 hm, im_l111 hm, im_l112 hm, im_l113 hm, im_l114 hm, im_l115 hm, im_l116 hm, im_r0 hm, im_r1 hm, im_r2 hm, im_r3 hm, im_r5 hm, im_r7 hm, im_r14 hm, im_r15 hm, im_r16 hm, im_r22 hm, rf_s, pushR_s, pushR_n, le4_0, le4_1, le4_2, le4_3, le4_4, isLong_n, isLong_i, isLong_r, isLong_f, if_true, if_false, not_true_eq_false, not_false_eq_true, isI_0, isI_9, isAr_0, isAr_1, isAr_2, isAr_9, okR_i, okR_0, okR_1, putI_0, putI_b0, putI_b1, nI_10, nI_00, Nat.reduceLT, Nat.reduceLeDiff, nI_add, upM_s, upI_s, pk_mul, nf_at, py ha]
    · subst e1 e2
      have il := inI_d (v := z) (a := 1) (b := 20) (by omega) (by omega) h
      simp only [k120_0, k120_1, k120_2, k120_5, k120_8, k120_9, k120_10, k120_13, k120_16, k120_17, k120_18, k120_21, k120_22, k120_23, k120_25, k120_28, k120_31, k120_33, k120_34, k120_35, k120_38, k120_39, k120_40, k120_42, k120_45, k120_47, k120_48, k120_49, k120_52, k120_53, k120_54, k120_56, k120_57, k120_59, k120_60, k120_61, k120_64, k120_65, k120_67, k120_68, k120_69, k120_72, k120_73, k120_75, k120_76, k120_77, k120_80, k120_81, k120_83, k120_84, k120_85, k120_88, k120_90, k120_91, k120_94, k120_95, k120_97, k120_98, k120_99, k120_102, k120_103, k120_105, k120_106, k120_107, k120_110, k120_111, k120_114, k120_115, k120_116, k120_117, k120_118, k120_119, k120_120, k120_122, im_t106 hm, im_t107 hm, im_t108 hm, im_t109 hm, im_t110 hm, im_t111 hm, im_t112 hm, im_t113 hm, im_t114 hm, im_t115 hm, im_t116 hm, im_l107 hm, im_l108 hm, im_l109 hm, im_l110 hm, im_l111 hm, im_l112 hm, im_l113 hm, im_l114 hm, im_l115 hm, im_l116 hm, im_r0 hm, im_r1 hm, im_r2 hm, im_r3 hm, im_r5 hm, im_r7 hm, im_r14 hm, im_r15 hm, im_r16 hm, im_r22 hm, rf_s, pushR_s, pushR_n, le4_0, le4_1, le4_2, le4_3, le4_4, isLong_n, isLong_i, isLong_r, isLong_f, if_true, if_false, not_true_eq_false, not_false_eq_true, isI_0, isI_9, isAr_0, isAr_1, isAr_2, isAr_9, okR_i, okR_0, okR_1, putI_0, putI_b0, putI_b1, nI_10, nI_00, Nat.reduceLT, Nat.reduceLeDiff, nI_add, upM_s, upI_s, pk_mul, nf_at, py ha, py hb, ne, m95, il]
def gClose (s : Nat → Nat) (k c : Nat) : Nat → Nat := upN s (30 + 6 * k + 4) c
def oClose (s : Nat → Nat) (x : Int32) (c : Nat) (r : Int32) (s' : Nat → Nat) : Prop := (∃ k, x = nI k ∧ k < s 1 ∧ (s (30 + 6 * k + 4) = c ∧ r = -1000000002 ∧ s' = s ∨ s (30 + 6 * k + 4) ≠ c ∧ r = nI (sumTo (opn (gClose s k c)) (s 1)) ∧ s' = gClose s k c)) ∨ (¬ ∃ k, k < s 1 ∧ x = nI k) ∧ r = -1000000001 ∧ s' = s
theorem oClose_ex {s : Nat → Nat} (x : Int32) (c : Nat) : ∃ r s', oClose s x c r s' := by
  by_cases h1 : ∃ a, a < s 1 ∧ x = nI a
  · obtain ⟨k, hk, e⟩ := h1
    by_cases h2 : s (30 + 6 * k + 4) = c
    · exact ⟨_, _, Or.inl ⟨k, e, hk, Or.inl ⟨h2, rfl, rfl⟩⟩⟩
    · exact ⟨_, _, Or.inl ⟨k, e, hk, Or.inr ⟨h2, rfl, rfl⟩⟩⟩
  · exact ⟨_, _, Or.inr ⟨h1, rfl, rfl⟩⟩
theorem Inv_close {s : Nat → Nat} (i : Inv s) {k c : Nat} (hk : k < s 1) (hc : c ≤ 1) : Inv (gClose s k c) := by
  obtain ⟨⟨g0, g1, g2⟩, i2, i3, i4, i5⟩ := i
  have lo : ∀ j, j < 30 → gClose s k c j = s j := fun j h => upN_n (by omega)
  refine ⟨⟨by rw [lo 0 (by omega)]; exact g0, by rw [lo 1 (by omega)]; exact g1, fun q hq => ?_⟩, ?_, ?_, by rw [lo 8 (by omega)]; exact i4, ?_⟩
  · rw [lo 1 (by omega)] at hq
    have h := g2 q hq
    have w : ∀ w, w < 4 → gClose s k c (30 + 6 * q + w) = s (30 + 6 * q + w) := fun w hw => upN_n (by omega)
    unfold pOk at h ⊢
    rw [lo 0 (by omega), w 0 (by omega), w 1 (by omega), w 2 (by omega), w 3 (by omega)]
    refine ⟨h.1, h.2.1, h.2.2.1, h.2.2.2.1, h.2.2.2.2.1, h.2.2.2.2.2.1, h.2.2.2.2.2.2.1, ?_⟩
    unfold gClose upN
    split
    · exact hc
    · exact h.2.2.2.2.2.2.2
  · unfold sOk at i2 ⊢
    rw [lo 13 (by omega), lo 14 (by omega), lo 15 (by omega), lo 16 (by omega), lo 17 (by omega), lo 18 (by omega), lo 19 (by omega)]
    exact i2
  · unfold fOk at i3 ⊢
    rw [lo 7 (by omega), lo 0 (by omega)]
    exact i3
  · unfold bOk at i5 ⊢
    rw [lo 7 (by omega), lo 0 (by omega), lo 9 (by omega), lo 10 (by omega), lo 12 (by omega), lo 20 (by omega)]
    intro h9
    obtain ⟨q1, q2, q3, q4, q5, q6, q7⟩ := i5 h9
    exact ⟨q1, q2, q3, q4, q5, q6, fun i hi => by rw [lo (20 + i) (by omega)]; exact q7 i hi⟩
theorem m121 {σ : Sg} {M : Mem} (hm : IsM σ) {s : Nat → Nat} (hs : M 107 = nf s) (i : Inv s) {x r : Int32} {c : Nat} (hc : c ≤ 1) {s' : Nat → Nat} (o : oClose s x c r s') (Q : Po) : wp 121 0 [some (.ref 106), some (.int x), some (.int (nI c))] [] σ M Q = Q (some (.int r)) σ (upM M 107 (nf s')) := by
  have g1 := i.1.2.1
  have self : upM M 107 (nf s) = M := upM_self hs
  rcases o with ⟨k, e, hk, h⟩ | ⟨h, e1, e2⟩
  · subst e
    have py := fun Q => m101y (Q := Q) hm hs (by omega) hk
    have m := fun Q => m102 (M := M) (Q := Q) hm (k := k) (w := 4) (by omega) (by omega)
    have pc := (i.1.2.2 k hk).2.2.2.2.2.2.2
    rcases h with ⟨h1, h2, h3⟩ | ⟨h1, h2, h3⟩
    · rw [h2, h3]
      have ee : nI (s (30 + 6 * k + 4)) = nI c := by rw [h1]
      simp only [k121_0, k121_1, k121_2, k121_5, k121_8, k121_10, k121_11, k121_12, k121_13, k121_14, k121_17, k121_18, k121_21, k121_23, k121_24, k121_25, k121_26, k121_27, k121_28, k121_31, k121_32, k121_35, im_t106 hm, im_t107 hm, im_t108 hm, im_t109 hm, im_t110 hm, im_t111 hm, im_t112 hm, im_t113 hm, im_t114 hm, im_t115 hm, im_t116 hm, im_l107 hm, im_l108 hm, im_l109 hm, im_l110 hm, im_l111 hm, im_l112 hm, im_l113 hm, im_l114 hm, im_l115 hm, im_l116 hm, im_r0 hm, im_r1 hm, im_r2 hm, im_r3 hm, im_r5 hm, im_r7 hm, im_r14 hm, im_r15 hm, im_r16 hm, im_r22 hm, rf_s, pushR_s, pushR_n, le4_0, le4_1, le4_2, le4_3, le4_4, isLong_n, isLong_i, isLong_r, isLong_f, if_true, if_false, not_true_eq_false, not_false_eq_true, isI_0, isI_9, isAr_0, isAr_1, isAr_2, isAr_9, okR_i, okR_0, okR_1, putI_0, putI_b0, putI_b1, nI_10, nI_00, Nat.reduceLT, Nat.reduceLeDiff, nI_add, upM_s, upI_s, pk_mul, nf_at, py, m, hs, ee, self]
    · rw [h2, h3]
      have ee : ¬ nI (s (30 + 6 * k + 4)) = nI c := ne_n (by omega) (by omega) h1
      have m3 := fun x Q => m103 (M := M) (x := x) (Q := Q) hm (k := k) (w := 4) (by omega) (by omega)
      have i' := Inv_close i hk hc
      have e1 : gClose s k c 1 = s 1 := upN_n (by omega)
      have m7 := fun Q => m107 (M := upM M 107 (nf (gClose s k c))) (Q := Q) hm upM_s i'.1
      rw [e1] at m7
      unfold gClose at m7 ⊢
      simp only [k121_0, k121_1, k121_2, k121_5, k121_8, k121_10, k121_11, k121_12, k121_13, k121_14, k121_17, k121_18, k121_21, k121_23, k121_24, k121_25, k121_26, k121_27, k121_28, k121_31, k121_32, k121_35, im_t106 hm, im_t107 hm, im_t108 hm, im_t109 hm, im_t110 hm, im_t111 hm, im_t112 hm, im_t113 hm, im_t114 hm, im_t115 hm, im_t116 hm, im_l107 hm, im_l108 hm, im_l109 hm, im_l110 hm, im_l111 hm, im_l112 hm, im_l113 hm, im_l114 hm, im_l115 hm, im_l116 hm, im_r0 hm, im_r1 hm, im_r2 hm, im_r3 hm, im_r5 hm, im_r7 hm, im_r14 hm, im_r15 hm, im_r16 hm, im_r22 hm, rf_s, pushR_s, pushR_n, le4_0, le4_1, le4_2, le4_3, le4_4, isLong_n, isLong_i, isLong_r, isLong_f, if_true, if_false, not_true_eq_false, not_false_eq_true, isI_0, isI_9, isAr_0, isAr_1, isAr_2, isAr_9, okR_i, okR_0, okR_1, putI_0, putI_b0, putI_b1, nI_10, nI_00, Nat.reduceLT, Nat.reduceLeDiff, nI_add, upM_s, upI_s, pk_mul, nf_at, py, m, hs, ee, m3, upI_nf, m7]
  · rw [e1, e2]
    have pn := fun Q => m101n (Q := Q) hm hs (by omega) h
    rw [self]
    simp only [k121_0, k121_1, k121_2, k121_5, k121_8, k121_10, k121_11, k121_12, k121_13, k121_14, k121_17, k121_18, k121_21, k121_23, k121_24, k121_25, k121_26, k121_27, k121_28, k121_31, k121_32, k121_35, im_t106 hm, im_t107 hm, im_t108 hm, im_t109 hm, im_t110 hm, im_t111 hm, im_t112 hm, im_t113 hm, im_t114 hm, im_t115 hm, im_t116 hm, im_l107 hm, im_l108 hm, im_l109 hm, im_l110 hm, im_l111 hm, im_l112 hm, im_l113 hm, im_l114 hm, im_l115 hm, im_l116 hm, im_r0 hm, im_r1 hm, im_r2 hm, im_r3 hm, im_r5 hm, im_r7 hm, im_r14 hm, im_r15 hm, im_r16 hm, im_r22 hm, rf_s, pushR_s, pushR_n, le4_0, le4_1, le4_2, le4_3, le4_4, isLong_n, isLong_i, isLong_r, isLong_f, if_true, if_false, not_true_eq_false, not_false_eq_true, isI_0, isI_9, isAr_0, isAr_1, isAr_2, isAr_9, okR_i, okR_0, okR_1, putI_0, putI_b0, putI_b1, nI_10, nI_00, Nat.reduceLT, Nat.reduceLeDiff, nI_add, upM_s, upI_s, pk_mul, nf_at, pn]
