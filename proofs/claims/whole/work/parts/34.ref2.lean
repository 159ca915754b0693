theorem ne_nf {a : Nat} (ha : a < 2 ^ 31) : ¬ nI a = -1000000004 := by
  intro e
  have h := congrArg Int32.toInt e
  rw [nI_toInt ha] at h
  have h2 : Int32.toInt (-1000000004) = -1000000004 := by decide
  omega
def rOver (s : Nat → Nat) (r : Int32) : Prop := s 9 = 0 ∧ r = -1000000004 ∨ s 9 ≠ 0 ∧ Dr s (s 0) (s 7) < 1000 ∧ r = nI (s 9) - nI (Dr s (s 0) (s 7)) ∨ s 9 ≠ 0 ∧ ¬ Dr s (s 0) (s 7) < 1000 ∧ r = -1000000004
theorem rOver_ex {s : Nat → Nat} : ∃ r, rOver s r := by
  by_cases h : s 9 = 0
  · exact ⟨_, Or.inl ⟨h, rfl⟩⟩
  · by_cases h2 : Dr s (s 0) (s 7) < 1000
    · exact ⟨_, Or.inr (Or.inl ⟨h, h2, rfl⟩)⟩
    · exact ⟨_, Or.inr (Or.inr ⟨h, h2, rfl⟩)⟩
theorem m143 {σ : Sg} {M : Mem} (hm : IsM σ) {s : Nat → Nat} (hs : M 107 = nf s) (i : Inv s) {r : Int32} (o : rOver s r) : ∃ M', (∀ Q, wp 143 0 [some (.ref 106), none] [] σ M Q = Q (some (.int r)) σ M') ∧ RQ M M' s := by
  have m := fun Q => m110 (Q := Q) hm hs i.1 (p := s 7) i.2.2.1.2.1
  have hs' : ∀ d, aM M d 107 = nf s := fun d => hs
  rcases o with ⟨h, e⟩ | ⟨h, h2, e⟩ | ⟨h, h2, e⟩
  · subst e
    refine ⟨M, fun Q => ?_, RQ_r hs⟩
    simp only [k143_0, k143_1, k143_4, k143_6, k143_7, k143_10, k143_12, k143_13, k143_14, k143_15, k143_18, k143_20, k143_21, k143_24, k143_25, k143_26, k143_28, k143_31, k143_33, k143_36, k143_37, k143_40, k143_42, k143_43, k143_44, k143_45, im_t106 hm, im_t107 hm, im_t108 hm, im_t109 hm, im_t110 hm, im_t111 hm, im_t112 hm, im_t113 hm, im_t114 hm, im_t115 hm, im_t116 hm, im_l107 hm, im_l108 hm, im_l109 hm, im_l110 hm, im_l111 hm, im_l112 hm, im_l113 hm, im_l114 hm, im_l115 hm, im_l116 hm, im_r0 hm, im_r1 hm, im_r2 hm, im_r3 hm, im_r5 hm, im_r7 hm, im_r14 hm, im_r15 hm, im_r16 hm, im_r22 hm, rf_s, pushR_s, pushR_n, le4_0, le4_1, le4_2, le4_3, le4_4, isLong_n, isLong_i, isLong_r, isLong_f, if_true, if_false, not_true_eq_false, not_false_eq_true, isI_0, isI_9, isAr_0, isAr_1, isAr_2, isAr_9, okR_i, okR_0, okR_1, putI_0, putI_b0, putI_b1, nI_10, nI_00, Nat.reduceLT, Nat.reduceLeDiff, nI_add, upM_s, upI_s, pk_mul, nf_at, hs, h]
  · subst e
    obtain ⟨q1, q2, q3, q4, q5, q6, q7⟩ := i.2.2.2.2.1 h
    have z : ¬ nI (s 9) = 0 := nI_ne0 (by omega) (by omega)
    refine ⟨aM M (Dr s (s 0)), fun Q => ?_, RQ_a hs⟩
    have d : dist s (s 7) = nI (Dr s (s 0) (s 7)) := if_pos h2
    have z2 : ¬ nI (Dr s (s 0) (s 7)) = -1000000004 := ne_nf (by omega)
    simp only [k143_0, k143_1, k143_4, k143_6, k143_7, k143_10, k143_12, k143_13, k143_14, k143_15, k143_18, k143_20, k143_21, k143_24, k143_25, k143_26, k143_28, k143_31, k143_33, k143_36, k143_37, k143_40, k143_42, k143_43, k143_44, k143_45, im_t106 hm, im_t107 hm, im_t108 hm, im_t109 hm, im_t110 hm, im_t111 hm, im_t112 hm, im_t113 hm, im_t114 hm, im_t115 hm, im_t116 hm, im_l107 hm, im_l108 hm, im_l109 hm, im_l110 hm, im_l111 hm, im_l112 hm, im_l113 hm, im_l114 hm, im_l115 hm, im_l116 hm, im_r0 hm, im_r1 hm, im_r2 hm, im_r3 hm, im_r5 hm, im_r7 hm, im_r14 hm, im_r15 hm, im_r16 hm, im_r22 hm, rf_s, pushR_s, pushR_n, le4_0, le4_1, le4_2, le4_3, le4_4, isLong_n, isLong_i, isLong_r, isLong_f, if_true, if_false, not_true_eq_false, not_false_eq_true, isI_0, isI_9, isAr_0, isAr_1, isAr_2, isAr_9, okR_i, okR_0, okR_1, putI_0, putI_b0, putI_b1, nI_10, nI_00, Nat.reduceLT, Nat.reduceLeDiff, nI_add, upM_s, upI_s, pk_mul, nf_at, hs, z, m, d, z2, hs']
  · subst e
    obtain ⟨q1, q2, q3, q4, q5, q6, q7⟩ := i.2.2.2.2.1 h
    have z : ¬ nI (s 9) = 0 := nI_ne0 (by omega) (by omega)
    refine ⟨aM M (Dr s (s 0)), fun Q => ?_, RQ_a hs⟩
    have d : dist s (s 7) = -1000000004 := if_neg h2
    simp only [k143_0, k143_1, k143_4, k143_6, k143_7, k143_10, k143_12, k143_13, k143_14, k143_15, k143_18, k143_20, k143_21, k143_24, k143_25, k143_26, k143_28, k143_31, k143_33, k143_36, k143_37, k143_40, k143_42, k143_43, k143_44, k143_45, im_t106 hm, im_t107 hm, im_t108 hm, im_t109 hm, im_t110 hm, im_t111 hm, im_t112 hm, im_t113 hm, im_t114 hm, im_t115 hm, im_t116 hm, im_l107 hm, im_l108 hm, im_l109 hm, im_l110 hm, im_l111 hm, im_l112 hm, im_l113 hm, im_l114 hm, im_l115 hm, im_l116 hm, im_r0 hm, im_r1 hm, im_r2 hm, im_r3 hm, im_r5 hm, im_r7 hm, im_r14 hm, im_r15 hm, im_r16 hm, im_r22 hm, rf_s, pushR_s, pushR_n, le4_0, le4_1, le4_2, le4_3, le4_4, isLong_n, isLong_i, isLong_r, isLong_f, if_true, if_false, not_true_eq_false, not_false_eq_true, isI_0, isI_9, isAr_0, isAr_1, isAr_2, isAr_9, okR_i, okR_0, okR_1, putI_0, putI_b0, putI_b1, nI_10, nI_00, Nat.reduceLT, Nat.reduceLeDiff, nI_add, upM_s, upI_s, pk_mul, nf_at, hs, z, m, d]
def mix (s t : Nat → Nat) : Nat → Nat := fun j => if j < 146 then s j else t j
theorem mix_e {s t : Nat → Nat} : e146 s (mix s t) := fun j hj => if_pos hj
theorem cp_mix {s t : Nat → Nat} {f : Nat → Int32} : cp 146 (cp 146 (nf s) f) (nf t) = nf (mix s t) := by
  funext j
  unfold cp nf mix
  by_cases c : j < 146
  · rw [if_pos c, if_pos c, if_pos c]
  · rw [if_neg c, if_neg c]
def aAnt (s : Nat → Nat) (w : Nat) : Nat := if w = 0 then (wlk s).2.2 else if w = 1 then (wlk s).2.1.1 else hr (wlk s).2.1
def rAnt (s : Nat → Nat) (x r : Int32) : Prop := (∃ w, w ≤ 2 ∧ x = nI w ∧ (s 0 < 2 ∧ r = -1000000002 ∨ 2 ≤ s 0 ∧ r = nI (aAnt s w))) ∨ (¬ qIn x 2) ∧ r = -1000000001
theorem rAnt_ex {s : Nat → Nat} (x : Int32) : ∃ r, rAnt s x r := by
  by_cases h : qIn x 2
  · obtain ⟨w, hw, e⟩ := h
    by_cases h2 : s 0 < 2
    · exact ⟨_, Or.inl ⟨w, hw, e, Or.inl ⟨h2, rfl⟩⟩⟩
    · exact ⟨_, Or.inl ⟨w, hw, e, Or.inr ⟨by omega, rfl⟩⟩⟩
  · exact ⟨_, Or.inr ⟨h, rfl⟩⟩
theorem m144 {σ : Sg} {M : Mem} (hm : IsM σ) {s : Nat → Nat} (hs : M 107 = nf s) (i : Inv s) {x r : Int32} (o : rAnt s x r) : ∃ M', (∀ Q, wp 144 0 [some (.ref 106), some (.int x)] [] σ M Q = Q (some (.int r)) σ M') ∧ RQ M M' s := by
  have g0 := i.1.1
  rcases o with ⟨w, hw, e, h⟩ | ⟨h, e⟩
  · subst e
    have il := inI_w (n := 2) (by omega) hw
    rcases h with ⟨c, er⟩ | ⟨c, er⟩
    · subst er
      refine ⟨M, fun Q => ?_, RQ_r hs⟩
      have z : nI (s 0) < nI 2 := nI_lt c (by omega)
      simp only [k144_0, k144_1, k144_2, k144_3, k144_6, k144_9, k144_11, k144_12, k144_13, k144_16, k144_17, k144_18, k144_19, k144_22, k144_24, k144_25, k144_26, k144_29, k144_30, k144_33, k144_36, k144_37, k144_40, k144_41, k144_44, k144_45, k144_48, k144_51, k144_52, k144_55, k144_56, k144_59, k144_62, k144_63, k144_64, k144_67, k144_68, k144_71, k144_74, k144_75, k144_78, im_t106 hm, im_t107 hm, im_t108 hm, im_t109 hm, im_t110 hm, im_t111 hm, im_t112 hm, im_t113 hm, im_t114 hm, im_t115 hm, im_t116 hm, im_l107 hm, im_l108 hm, im_l109 hm, im_l110 hm, im_l111 hm, im_l112 hm, im_l113 hm, im_l114 hm, im_l115 hm, im_l116 hm, im_r0 hm, im_r1 hm, im_r2 hm, im_r3 hm, im_r5 hm, im_r7 hm, im_r14 hm, im_r15 hm, im_r16 hm, im_r22 hm, rf_s, pushR_s, pushR_n, le4_0, le4_1, le4_2, le4_3, le4_4, isLong_n, isLong_i, isLong_r, isLong_f, if_true, if_false, not_true_eq_false, not_false_eq_true, isI_0, isI_9, isAr_0, isAr_1, isAr_2, isAr_9, okR_i, okR_0, okR_1, putI_0, putI_b0, putI_b1, nI_10, nI_00, Nat.reduceLT, Nat.reduceLeDiff, nI_add, upM_s, upI_s, pk_mul, nf_at, m95, il, hs, z]
    · subst er
      have z : ¬ nI (s 0) < nI 2 := nI_nlt c (by omega)
      have i2 := i.2.1
      unfold sOk at i2
      have c1 := fun Q => m97 (M := M) (Q := Q) (σ := σ) (a := 107) (b := 109) (by decide) (im_t107 hm) (im_t109 hm) (im_l107 hm) (im_l109 hm)
      rw [hs] at c1
      have hs1 : upM M 109 (cp 146 (nf s) (M 109)) 107 = nf s := hs
      obtain ⟨M2, a1, a2, a3, a4, a5, a6⟩ := m115 hm hs1 i.1 (by omega) i.2.2.1.2.1 (by omega) i.2.2.2.1
      have c2 := fun Q => m97 (M := M2) (Q := Q) (σ := σ) (a := 109) (b := 107) (by decide) (im_t109 hm) (im_t107 hm) (im_l109 hm) (im_l107 hm)
      have e9 : M2 109 = cp 146 (nf s) (M 109) := by rw [a5 109 (by decide) (by decide) (by decide), upM_s]
      rw [e9, a3, cp_mix] at c2
      obtain ⟨v1, v2, v3, v4, v5, v6⟩ := a2
      refine ⟨upM M2 107 (nf (mix s (antS s))), fun Q => ?_, ⟨_, mix_e, upM_s⟩, fun o ho => ?_, ?_, ?_⟩
      · have u1 : ∀ f, upM M2 107 f 106 = M2 106 := fun f => rfl
        have z1 : ¬ nI 2 = 0 := by decide
        rcases (show w = 0 ∨ w = 1 ∨ w = 2 by omega) with c | c | c <;> subst c <;> simp only [k144_0, k144_1, k144_2, k144_3, k144_6, k144_9, k144_11, k144_12, k144_13, k144_16, k144_17, k144_18, k144_19, k144_22, k144_24, k144_25, k144_26, k144_29, k144_30, k144_33, k144_36, k144_37, k144_40, k144_41, k144_44, k144_45, k144_48, k144_51, k144_52, k144_55, k144_56, k144_59, k144_62, k144_63, k144_64, k144_67, k144_68, k144_71, k144_74, k144_75, k144_78, im_t106 hm, im_t107 hm, im_t108 hm, im_t109 hm, im_t110 hm, im_t111 hm, im_t112 hm, im_t113 hm, im_t114 hm, im_t115 hm, im_t116 hm, im_l107 hm, im_l108 hm, im_l109 hm, im_l110 hm, im_l111 hm, im_l112 hm, im_l113 hm, im_l114 hm, im_l115 hm, im_l116 hm, im_r0 hm, im_r1 hm, im_r2 hm, im_r3 hm, im_r5 hm, im_r7 hm, im_r14 hm, im_r15 hm, im_r16 hm, im_r22 hm, rf_s, pushR_s, pushR_n, le4_0, le4_1, le4_2, le4_3, le4_4, isLong_n, isLong_i, isLong_r, isLong_f, if_true, if_false, not_true_eq_false, not_false_eq_true, isI_0, isI_9, isAr_0, isAr_1, isAr_2, isAr_9, okR_i, okR_0, okR_1, putI_0, putI_b0, putI_b1, nI_10, nI_00, Nat.reduceLT, Nat.reduceLeDiff, nI_add, upM_s, upI_s, pk_mul, nf_at, m95, il, hs, z, c1, c2, a1, u1, v1, v2, a4, aAnt, nI_lit, Nat.reduceEqDiff, z1]
      · rw [upM_n (by omega), a5 o (by omega) (by omega) (by omega), upM_n (by omega)]
      · rw [upM_n (by decide), a6 4 (by omega)]; rfl
      · rw [upM_n (by decide), a6 6 (by omega)]; rfl
  · subst e
    refine ⟨M, fun Q => ?_, RQ_r hs⟩
    have il := inI_q (n := 2) (by omega) h
    simp only [k144_0, k144_1, k144_2, k144_3, k144_6, k144_9, k144_11, k144_12, k144_13, k144_16, k144_17, k144_18, k144_19, k144_22, k144_24, k144_25, k144_26, k144_29, k144_30, k144_33, k144_36, k144_37, k144_40, k144_41, k144_44, k144_45, k144_48, k144_51, k144_52, k144_55, k144_56, k144_59, k144_62, k144_63, k144_64, k144_67, k144_68, k144_71, k144_74, k144_75, k144_78, im_t106 hm, im_t107 hm, im_t108 hm, im_t109 hm, im_t110 hm, im_t111 hm, im_t112 hm, im_t113 hm, im_t114 hm, im_t115 hm, im_t116 hm, im_l107 hm, im_l108 hm, im_l109 hm, im_l110 hm, im_l111 hm, im_l112 hm, im_l113 hm, im_l114 hm, im_l115 hm, im_l116 hm, im_r0 hm, im_r1 hm, im_r2 hm, im_r3 hm, im_r5 hm, im_r7 hm, im_r14 hm, im_r15 hm, im_r16 hm, im_r22 hm, rf_s, pushR_s, pushR_n, le4_0, le4_1, le4_2, le4_3, le4_4, isLong_n, isLong_i, isLong_r, isLong_f, if_true, if_false, not_true_eq_false, not_false_eq_true, isI_0, isI_9, isAr_0, isAr_1, isAr_2, isAr_9, okR_i, okR_0, okR_1, putI_0, putI_b0, putI_b1, nI_10, nI_00, Nat.reduceLT, Nat.reduceLeDiff, nI_add, upM_s, upI_s, pk_mul, nf_at, m95, il]
def aWould (s : Nat → Nat) (n w : Nat) : Int32 := if w = 0 then nI (lapN s n 4) - nI (s 4) else if w = 1 then nI (lapN s n 5) - nI (s 5) else if w = 3 then nI (sumTo (trl (lapN s n)) (lapN s n 1)) else if lapN s n 9 = 0 then -1000000004 else nI (lapN s n 9)
def rWould (s : Nat → Nat) (x y r : Int32) : Prop := (∃ n w, 1 ≤ n ∧ n ≤ 5 ∧ x = nI n ∧ w ≤ 3 ∧ y = nI w ∧ (s 0 < 2 ∧ r = -1000000002 ∨ 2 ≤ s 0 ∧ r = aWould s n w)) ∨ ((¬ ∃ n, 1 ≤ n ∧ n ≤ 5 ∧ x = nI n) ∨ (∃ n, 1 ≤ n ∧ n ≤ 5 ∧ x = nI n) ∧ ¬ qIn y 3) ∧ r = -1000000001
theorem rWould_ex {s : Nat → Nat} (x y : Int32) : ∃ r, rWould s x y r := by
  by_cases h : ∃ n, 1 ≤ n ∧ n ≤ 5 ∧ x = nI n
  · have h' := h
    obtain ⟨n, n1, n5, e⟩ := h
    by_cases h2 : qIn y 3
    · obtain ⟨w, hw, e2⟩ := h2
      by_cases h3 : s 0 < 2
      · exact ⟨_, Or.inl ⟨n, w, n1, n5, e, hw, e2, Or.inl ⟨h3, rfl⟩⟩⟩
      · exact ⟨_, Or.inl ⟨n, w, n1, n5, e, hw, e2, Or.inr ⟨by omega, rfl⟩⟩⟩
    · exact ⟨_, Or.inr ⟨Or.inr ⟨h', h2⟩, rfl⟩⟩
  · exact ⟨_, Or.inr ⟨Or.inl h, rfl⟩⟩
theorem m145 {σ : Sg} {M : Mem} (hm : IsM σ) {s : Nat → Nat} (hs : M 107 = nf s) (i : Inv s) {x y r : Int32} (o : rWould s x y r) : ∃ M', (∀ Q, wp 145 0 [some (.ref 106), some (.int x), some (.int y), none] [] σ M Q = Q (some (.int r)) σ M') ∧ RQ M M' s := by
  have g0 := i.1.1
  rcases o with ⟨n, w, n1, n5, e, hw, e2, h⟩ | ⟨h, e⟩
  · subst e e2
    have il := inI_w (n := 3) (by omega) hw
    have il2 := inI_c (v := nI n) (a := 1) (b := 5) (by omega) (by omega) n1 n5 rfl
    rcases h with ⟨c, er⟩ | ⟨c, er⟩
    · subst er
      refine ⟨M, fun Q => ?_, RQ_r hs⟩
      have z : nI (s 0) < nI 2 := nI_lt c (by omega)
      simp only [k145_0, k145_1, k145_2, k145_3, k145_6, k145_9, k145_10, k145_11, k145_12, k145_15, k145_18, k145_20, k145_21, k145_22, k145_25, k145_26, k145_27, k145_28, k145_31, k145_33, k145_34, k145_35, k145_38, k145_39, k145_42, k145_45, k145_46, k145_47, k145_50, k145_51, k145_54, k145_55, k145_58, k145_59, k145_60, k145_61, k145_64, k145_65, k145_66, k145_67, k145_70, k145_71, k145_72, k145_75, k145_76, k145_79, k145_80, k145_81, k145_82, k145_85, k145_86, k145_87, k145_88, k145_91, k145_92, k145_93, k145_96, k145_97, k145_100, k145_103, k145_104, k145_107, k145_109, k145_110, k145_113, k145_115, k145_118, k145_119, k145_122, k145_124, k145_125, k145_126, k145_127, k145_130, k145_131, k145_134, k145_137, k145_138, im_t106 hm, im_t107 hm, im_t108 hm, im_t109 hm, im_t110 hm, im_t111 hm, im_t112 hm, im_t113 hm, im_t114 hm, im_t115 hm, im_t116 hm, im_l107 hm, im_l108 hm, im_l109 hm, im_l110 hm, im_l111 hm, im_l112 hm, im_l113 hm, im_l114 hm, im_l115 hm, im_l116 hm, im_r0 hm, im_r1 hm, im_r2 hm, im_r3 hm, im_r5 hm, im_r7 hm, im_r14 hm, im_r15 hm, im_r16 hm, im_r22 hm, rf_s, pushR_s, pushR_n, le4_0, le4_1, le4_2, le4_3, le4_4, isLong_n, isLong_i, isLong_r, isLong_f, if_true, if_false, not_true_eq_false, not_false_eq_true, isI_0, isI_9, isAr_0, isAr_1, isAr_2, isAr_9, okR_i, okR_0, okR_1, putI_0, putI_b0, putI_b1, nI_10, nI_00, Nat.reduceLT, Nat.reduceLeDiff, nI_add, upM_s, upI_s, pk_mul, nf_at, m95, il, il2, hs, z]
    · subst er
      have z : ¬ nI (s 0) < nI 2 := nI_nlt c (by omega)
      have c1 := fun Q => m97 (M := M) (Q := Q) (σ := σ) (a := 107) (b := 109) (by decide) (im_t107 hm) (im_t109 hm) (im_l107 hm) (im_l109 hm)
      rw [hs] at c1
      have hs1 : upM M 109 (cp 146 (nf s) (M 109)) 107 = nf s := hs
      obtain ⟨j1, j2, j3, j4⟩ := lapN_ok i c n
      obtain ⟨M2, a1, a3, a5, a6⟩ := m119 hm hs1 i c (n := n) (by omega)
      have c2 := fun Q => m97 (M := M2) (Q := Q) (σ := σ) (a := 109) (b := 107) (by decide) (im_t109 hm) (im_t107 hm) (im_l109 hm) (im_l107 hm)
      have e9 : M2 109 = cp 146 (nf s) (M 109) := by rw [a5 109 (by decide) (by decide) (by decide) (by decide) (by decide), upM_s]
      have m3 := fun Q => m109 (Q := Q) hm a3 j1.1.2.1
      have e94 : M2 109 4 = nI (s 4) := by rw [e9]; rfl
      have e95 : M2 109 5 = nI (s 5) := by rw [e9]; rfl
      have c2' := c2
      rw [e9, a3, cp_mix] at c2'
      refine ⟨upM M2 107 (nf (mix s (lapN s n))), fun Q => ?_, ⟨_, mix_e, upM_s⟩, fun o ho => ?_, ?_, ?_⟩
      · simp only [k145_0, k145_1, k145_2, k145_3, k145_6, k145_9, k145_10, k145_11, k145_12, k145_15, k145_18, k145_20, k145_21, k145_22, k145_25, k145_26, k145_27, k145_28, k145_31, k145_33, k145_34, k145_35, k145_38, k145_39, k145_42, k145_45, k145_46, k145_47, im_t106 hm, im_t107 hm, im_t108 hm, im_t109 hm, im_t110 hm, im_t111 hm, im_t112 hm, im_t113 hm, im_t114 hm, im_t115 hm, im_t116 hm, im_l107 hm, im_l108 hm, im_l109 hm, im_l110 hm, im_l111 hm, im_l112 hm, im_l113 hm, im_l114 hm, im_l115 hm, im_l116 hm, im_r0 hm, im_r1 hm, im_r2 hm, im_r3 hm, im_r5 hm, im_r7 hm, im_r14 hm, im_r15 hm, im_r16 hm, im_r22 hm, rf_s, pushR_s, pushR_n, le4_0, le4_1, le4_2, le4_3, le4_4, isLong_n, isLong_i, isLong_r, isLong_f, if_true, if_false, not_true_eq_false, not_false_eq_true, isI_0, isI_9, isAr_0, isAr_1, isAr_2, isAr_9, okR_i, okR_0, okR_1, putI_0, putI_b0, putI_b1, nI_10, nI_00, Nat.reduceLT, Nat.reduceLeDiff, nI_add, upM_s, upI_s, pk_mul, nf_at, m95, il, il2, hs, z, c1, a1]
        rcases (show w = 0 ∨ w = 1 ∨ w = 2 ∨ w = 3 by omega) with c | c | c | c <;> subst c
        · simp only [k145_50, k145_51, k145_54, k145_55, k145_58, k145_59, k145_60, k145_61, k145_64, k145_65, k145_66, k145_67, k145_70, k145_71, k145_72, k145_75, k145_76, k145_79, k145_80, k145_81, k145_82, k145_85, k145_86, k145_87, k145_88, k145_91, k145_92, k145_93, k145_96, k145_97, k145_100, k145_103, k145_104, k145_107, k145_109, k145_110, k145_113, k145_115, k145_118, k145_119, k145_122, k145_124, k145_125, k145_126, k145_127, k145_130, k145_131, k145_134, k145_137, k145_138, im_t106 hm, im_t107 hm, im_t108 hm, im_t109 hm, im_t110 hm, im_t111 hm, im_t112 hm, im_t113 hm, im_t114 hm, im_t115 hm, im_t116 hm, im_l107 hm, im_l108 hm, im_l109 hm, im_l110 hm, im_l111 hm, im_l112 hm, im_l113 hm, im_l114 hm, im_l115 hm, im_l116 hm, im_r0 hm, im_r1 hm, im_r2 hm, im_r3 hm, im_r5 hm, im_r7 hm, im_r14 hm, im_r15 hm, im_r16 hm, im_r22 hm, rf_s, pushR_s, pushR_n, le4_0, le4_1, le4_2, le4_3, le4_4, isLong_n, isLong_i, isLong_r, isLong_f, if_true, if_false, not_true_eq_false, not_false_eq_true, isI_0, isI_9, isAr_0, isAr_1, isAr_2, isAr_9, okR_i, okR_0, okR_1, putI_0, putI_b0, putI_b1, nI_10, nI_00, Nat.reduceLT, Nat.reduceLeDiff, nI_add, upM_s, upI_s, pk_mul, nf_at, a3, e94, e95, c2', aWould]
        · simp only [k145_50, k145_51, k145_54, k145_55, k145_58, k145_59, k145_60, k145_61, k145_64, k145_65, k145_66, k145_67, k145_70, k145_71, k145_72, k145_75, k145_76, k145_79, k145_80, k145_81, k145_82, k145_85, k145_86, k145_87, k145_88, k145_91, k145_92, k145_93, k145_96, k145_97, k145_100, k145_103, k145_104, k145_107, k145_109, k145_110, k145_113, k145_115, k145_118, k145_119, k145_122, k145_124, k145_125, k145_126, k145_127, k145_130, k145_131, k145_134, k145_137, k145_138, im_t106 hm, im_t107 hm, im_t108 hm, im_t109 hm, im_t110 hm, im_t111 hm, im_t112 hm, im_t113 hm, im_t114 hm, im_t115 hm, im_t116 hm, im_l107 hm, im_l108 hm, im_l109 hm, im_l110 hm, im_l111 hm, im_l112 hm, im_l113 hm, im_l114 hm, im_l115 hm, im_l116 hm, im_r0 hm, im_r1 hm, im_r2 hm, im_r3 hm, im_r5 hm, im_r7 hm, im_r14 hm, im_r15 hm, im_r16 hm, im_r22 hm, rf_s, pushR_s, pushR_n, le4_0, le4_1, le4_2, le4_3, le4_4, isLong_n, isLong_i, isLong_r, isLong_f, if_true, if_false, not_true_eq_false, not_false_eq_true, isI_0, isI_9, isAr_0, isAr_1, isAr_2, isAr_9, okR_i, okR_0, okR_1, putI_0, putI_b0, putI_b1, nI_10, nI_00, Nat.reduceLT, Nat.reduceLeDiff, nI_add, upM_s, upI_s, pk_mul, nf_at, a3, e94, e95, c2', aWould, Nat.reduceEqDiff]
        · have z1 : ¬ nI 2 = 0 := by decide
          have z3 : ¬ nI 2 = nI 1 := by decide
          have z4 : ¬ nI 2 = nI 3 := by decide
          by_cases c9 : lapN s n 9 = 0
          · simp only [k145_50, k145_51, k145_54, k145_55, k145_58, k145_59, k145_60, k145_61, k145_64, k145_65, k145_66, k145_67, k145_70, k145_71, k145_72, k145_75, k145_76, k145_79, k145_80, k145_81, k145_82, k145_85, k145_86, k145_87, k145_88, k145_91, k145_92, k145_93, k145_96, k145_97, k145_100, k145_103, k145_104, k145_107, k145_109, k145_110, k145_113, k145_115, k145_118, k145_119, k145_122, k145_124, k145_125, k145_126, k145_127, k145_130, k145_131, k145_134, k145_137, k145_138, im_t106 hm, im_t107 hm, im_t108 hm, im_t109 hm, im_t110 hm, im_t111 hm, im_t112 hm, im_t113 hm, im_t114 hm, im_t115 hm, im_t116 hm, im_l107 hm, im_l108 hm, im_l109 hm, im_l110 hm, im_l111 hm, im_l112 hm, im_l113 hm, im_l114 hm, im_l115 hm, im_l116 hm, im_r0 hm, im_r1 hm, im_r2 hm, im_r3 hm, im_r5 hm, im_r7 hm, im_r14 hm, im_r15 hm, im_r16 hm, im_r22 hm, rf_s, pushR_s, pushR_n, le4_0, le4_1, le4_2, le4_3, le4_4, isLong_n, isLong_i, isLong_r, isLong_f, if_true, if_false, not_true_eq_false, not_false_eq_true, isI_0, isI_9, isAr_0, isAr_1, isAr_2, isAr_9, okR_i, okR_0, okR_1, putI_0, putI_b0, putI_b1, nI_10, nI_00, Nat.reduceLT, Nat.reduceLeDiff, nI_add, upM_s, upI_s, pk_mul, nf_at, a3, e94, e95, c2', aWould, Nat.reduceEqDiff, z1, z3, z4, c9]
          · have b9 := (j1.2.2.2.2.1 c9).2.2.2.1
            have z5 : ¬ nI (lapN s n 9) = 0 := nI_ne0 (by omega) (by omega)
            simp only [k145_50, k145_51, k145_54, k145_55, k145_58, k145_59, k145_60, k145_61, k145_64, k145_65, k145_66, k145_67, k145_70, k145_71, k145_72, k145_75, k145_76, k145_79, k145_80, k145_81, k145_82, k145_85, k145_86, k145_87, k145_88, k145_91, k145_92, k145_93, k145_96, k145_97, k145_100, k145_103, k145_104, k145_107, k145_109, k145_110, k145_113, k145_115, k145_118, k145_119, k145_122, k145_124, k145_125, k145_126, k145_127, k145_130, k145_131, k145_134, k145_137, k145_138, im_t106 hm, im_t107 hm, im_t108 hm, im_t109 hm, im_t110 hm, im_t111 hm, im_t112 hm, im_t113 hm, im_t114 hm, im_t115 hm, im_t116 hm, im_l107 hm, im_l108 hm, im_l109 hm, im_l110 hm, im_l111 hm, im_l112 hm, im_l113 hm, im_l114 hm, im_l115 hm, im_l116 hm, im_r0 hm, im_r1 hm, im_r2 hm, im_r3 hm, im_r5 hm, im_r7 hm, im_r14 hm, im_r15 hm, im_r16 hm, im_r22 hm, rf_s, pushR_s, pushR_n, le4_0, le4_1, le4_2, le4_3, le4_4, isLong_n, isLong_i, isLong_r, isLong_f, if_true, if_false, not_true_eq_false, not_false_eq_true, isI_0, isI_9, isAr_0, isAr_1, isAr_2, isAr_9, okR_i, okR_0, okR_1, putI_0, putI_b0, putI_b1, nI_10, nI_00, Nat.reduceLT, Nat.reduceLeDiff, nI_add, upM_s, upI_s, pk_mul, nf_at, a3, e94, e95, c2', aWould, Nat.reduceEqDiff, z1, z3, z4, c9, z5]
        · have z1 : ¬ nI 3 = 0 := by decide
          have z3 : ¬ nI 3 = nI 1 := by decide
          simp only [k145_50, k145_51, k145_54, k145_55, k145_58, k145_59, k145_60, k145_61, k145_64, k145_65, k145_66, k145_67, k145_70, k145_71, k145_72, k145_75, k145_76, k145_79, k145_80, k145_81, k145_82, k145_85, k145_86, k145_87, k145_88, k145_91, k145_92, k145_93, k145_96, k145_97, k145_100, k145_103, k145_104, k145_107, k145_109, k145_110, k145_113, k145_115, k145_118, k145_119, k145_122, k145_124, k145_125, k145_126, k145_127, k145_130, k145_131, k145_134, k145_137, k145_138, im_t106 hm, im_t107 hm, im_t108 hm, im_t109 hm, im_t110 hm, im_t111 hm, im_t112 hm, im_t113 hm, im_t114 hm, im_t115 hm, im_t116 hm, im_l107 hm, im_l108 hm, im_l109 hm, im_l110 hm, im_l111 hm, im_l112 hm, im_l113 hm, im_l114 hm, im_l115 hm, im_l116 hm, im_r0 hm, im_r1 hm, im_r2 hm, im_r3 hm, im_r5 hm, im_r7 hm, im_r14 hm, im_r15 hm, im_r16 hm, im_r22 hm, rf_s, pushR_s, pushR_n, le4_0, le4_1, le4_2, le4_3, le4_4, isLong_n, isLong_i, isLong_r, isLong_f, if_true, if_false, not_true_eq_false, not_false_eq_true, isI_0, isI_9, isAr_0, isAr_1, isAr_2, isAr_9, okR_i, okR_0, okR_1, putI_0, putI_b0, putI_b1, nI_10, nI_00, Nat.reduceLT, Nat.reduceLeDiff, nI_add, upM_s, upI_s, pk_mul, nf_at, m3, a3, e94, e95, c2', aWould, Nat.reduceEqDiff, z1, z3]
      · rw [upM_n (by omega), a5 o (by omega) (by omega) (by omega) (by omega) (by omega), upM_n (by omega)]
      · rw [upM_n (by decide), a6 4 (by omega)]; rfl
      · rw [upM_n (by decide), a6 6 (by omega)]; rfl
  · subst e
    refine ⟨M, fun Q => ?_, RQ_r hs⟩
    rcases h with h | ⟨⟨n, n1, n5, e⟩, h⟩
    · have il := inI_d (v := x) (a := 1) (b := 5) (by omega) (by omega) h
      simp only [k145_0, k145_1, k145_2, k145_3, k145_6, k145_9, k145_10, k145_11, k145_12, k145_15, k145_18, k145_20, k145_21, k145_22, k145_25, k145_26, k145_27, k145_28, k145_31, k145_33, k145_34, k145_35, k145_38, k145_39, k145_42, k145_45, k145_46, k145_47, k145_50, k145_51, k145_54, k145_55, k145_58, k145_59, k145_60, k145_61, k145_64, k145_65, k145_66, k145_67, k145_70, k145_71, k145_72, k145_75, k145_76, k145_79, k145_80, k145_81, k145_82, k145_85, k145_86, k145_87, k145_88, k145_91, k145_92, k145_93, k145_96, k145_97, k145_100, k145_103, k145_104, k145_107, k145_109, k145_110, k145_113, k145_115, k145_118, k145_119, k145_122, k145_124, k145_125, k145_126, k145_127, k145_130, k145_131, k145_134, k145_137, k145_138, im_t106 hm, im_t107 hm, im_t108 hm, im_t109 hm, im_t110 hm, im_t111 hm, im_t112 hm, im_t113 hm, im_t114 hm, im_t115 hm, im_t116 hm, im_l107 hm, im_l108 hm, im_l109 hm, im_l110 hm, im_l111 hm, im_l112 hm, im_l113 hm, im_l114 hm, im_l115 hm, im_l116 hm, im_r0 hm, im_r1 hm, im_r2 hm, im_r3 hm, im_r5 hm, im_r7 hm, im_r14 hm, im_r15 hm, im_r16 hm, im_r22 hm, rf_s, pushR_s, pushR_n, le4_0, le4_1, le4_2, le4_3, le4_4, isLong_n, isLong_i, isLong_r, isLong_f, if_true, if_false, not_true_eq_false, not_false_eq_true, isI_0, isI_9, isAr_0, isAr_1, isAr_2, isAr_9, okR_i, okR_0, okR_1, putI_0, putI_b0, putI_b1, nI_10, nI_00, Nat.reduceLT, Nat.reduceLeDiff, nI_add, upM_s, upI_s, pk_mul, nf_at, m95, il]
    · have il2 := inI_c (v := x) (a := 1) (b := 5) (by omega) (by omega) n1 n5 e
      have il := inI_q (n := 3) (by omega) h
      simp only [k145_0, k145_1, k145_2, k145_3, k145_6, k145_9, k145_10, k145_11, k145_12, k145_15, k145_18, k145_20, k145_21, k145_22, k145_25, k145_26, k145_27, k145_28, k145_31, k145_33, k145_34, k145_35, k145_38, k145_39, k145_42, k145_45, k145_46, k145_47, k145_50, k145_51, k145_54, k145_55, k145_58, k145_59, k145_60, k145_61, k145_64, k145_65, k145_66, k145_67, k145_70, k145_71, k145_72, k145_75, k145_76, k145_79, k145_80, k145_81, k145_82, k145_85, k145_86, k145_87, k145_88, k145_91, k145_92, k145_93, k145_96, k145_97, k145_100, k145_103, k145_104, k145_107, k145_109, k145_110, k145_113, k145_115, k145_118, k145_119, k145_122, k145_124, k145_125, k145_126, k145_127, k145_130, k145_131, k145_134, k145_137, k145_138, im_t106 hm, im_t107 hm, im_t108 hm, im_t109 hm, im_t110 hm, im_t111 hm, im_t112 hm, im_t113 hm, im_t114 hm, im_t115 hm, im_t116 hm, im_l107 hm, im_l108 hm, im_l109 hm, im_l110 hm, im_l111 hm, im_l112 hm, im_l113 hm, im_l114 hm, im_l115 hm, im_l116 hm, im_r0 hm, im_r1 hm, im_r2 hm, im_r3 hm, im_r5 hm, im_r7 hm, im_r14 hm, im_r15 hm, im_r16 hm, im_r22 hm, rf_s, pushR_s, pushR_n, le4_0, le4_1, le4_2, le4_3, le4_4, isLong_n, isLong_i, isLong_r, isLong_f, if_true, if_false, not_true_eq_false, not_false_eq_true, isI_0, isI_9, isAr_0, isAr_1, isAr_2, isAr_9, okR_i, okR_0, okR_1, putI_0, putI_b0, putI_b1, nI_10, nI_00, Nat.reduceLT, Nat.reduceLeDiff, nI_add, upM_s, upI_s, pk_mul, nf_at, m95, il, il2]
