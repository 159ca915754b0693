theorem RJ_of {M : Mem} {g : Nat} {s : Nat → Nat} (r_pc : M g 0 = nI (s 0)) (r_came : ∀ p, p < 10 → M (g + 1) p = nI (s (126 + 2 * p + 0))) (r_stk : ∀ p, p < 10 → M (g + 2) p = nI (s (126 + 2 * p + 1))) (r_nc : M g 3 = nI (s 1)) (r_one : ∀ k, k < 16 → M (g + 3) k = nI (s (30 + 6 * k + 0))) (r_oth : ∀ k, k < 16 → M (g + 4) k = nI (s (30 + 6 * k + 1))) (r_len : ∀ k, k < 16 → M (g + 5) k = nI (s (30 + 6 * k + 2))) (r_trl : ∀ k, k < 16 → M (g + 6) k = nI (s (30 + 6 * k + 3))) (r_wal : ∀ k, k < 16 → M (g + 7) k = nI (s (30 + 6 * k + 5))) (r_clo : ∀ k, k < 16 → M (g + 8) k = nI (s (30 + 6 * k + 4))) (r_food : M g 10 = nI (s 7)) (r_x : M g 11 = nI (s 8)) (r_set : ∀ k, k < 7 → M (g + 9) k = nI (s (13 + k))) (r_laps : M g 13 = nI (s 2)) (r_end : ∀ y, y < 3 → M (g + 10) y = nI (s (4 + y))) : ∀ j, J j → M (lo g j) (li j) = nI (s j) := by
  intro j h
  unfold J at h
  by_cases c0 : j < 9
  · have : j = 0 ∨ j = 1 ∨ j = 2 ∨ j = 4 ∨ j = 5 ∨ j = 6 ∨ j = 7 ∨ j = 8 := by omega
    rcases this with e | e | e | e | e | e | e | e <;> subst e
    · exact r_pc
    · exact r_nc
    · exact r_laps
    · exact r_end 0 (by omega)
    · exact r_end 1 (by omega)
    · exact r_end 2 (by omega)
    · exact r_food
    · exact r_x
  · by_cases c1 : j < 20
    · obtain ⟨k, hk, e⟩ : ∃ k, k < 7 ∧ j = 13 + k := ⟨j - 13, by omega, by omega⟩
      subst e
      rw [lo_s hk, li_s hk]
      exact r_set k hk
    · by_cases c2 : j < 126
      · obtain ⟨k, w, hk, hw, e⟩ : ∃ k w, k < 16 ∧ w < 6 ∧ j = 30 + 6 * k + w := ⟨(j - 30) / 6, (j - 30) % 6, by omega, by omega, by omega⟩
        have hw' : w = 0 ∨ w = 1 ∨ w = 2 ∨ w = 3 ∨ w = 4 ∨ w = 5 := by omega
        rcases hw' with e2 | e2 | e2 | e2 | e2 | e2 <;> subst e2 <;> subst e
        · rw [lo_p0 hk, li_p hk (by omega)]; exact r_one k hk
        · rw [lo_p1 hk, li_p hk (by omega)]; exact r_oth k hk
        · rw [lo_p2 hk, li_p hk (by omega)]; exact r_len k hk
        · rw [lo_p3 hk, li_p hk (by omega)]; exact r_trl k hk
        · rw [lo_p4 hk, li_p hk (by omega)]; exact r_clo k hk
        · rw [lo_p5 hk, li_p hk (by omega)]; exact r_wal k hk
      · obtain ⟨p, w, hp, hw, e⟩ : ∃ p w, p < 10 ∧ w < 2 ∧ j = 126 + 2 * p + w := ⟨(j - 126) / 2, (j - 126) % 2, by omega, by omega, by omega⟩
        have hw' : w = 0 ∨ w = 1 := by omega
        rcases hw' with e2 | e2 <;> subst e2 <;> subst e
        · rw [lo_q0, li_q (by omega)]; exact r_came p hp
        · rw [lo_q1, li_q (by omega)]; exact r_stk p hp
theorem cp_lt {n k : Nat} {f g : Nat → Int32} (h : k < n) : cp n f g k = f k := if_pos h
section CPY
variable {σ : Sg} {M : Mem} {g h : Nat} {s : Nat → Nat}
theorem c37A (hg : IsG σ g) (hh : IsG σ h) (d : g + 12 < h ∨ h + 12 < g) (R : RG M g s) : ∃ P, (∀ Q, wp 37 0 [some (.ref g), some (.ref h)] [] σ M Q = wp 37 159 [some (.ref g), some (.ref h)] [] σ P Q) ∧ (∀ j, J j → P (lo h j) (li j) = nI (s j)) ∧ ∀ o, o < h ∨ h + 10 < o → P o = M o := by
  have d00 : ¬ g = h := by omega
  have d0b : ∀ b, b ≤ 12 → ¬ g = h + b := fun b hb => by omega
  have da0 : ∀ a, a ≤ 12 → ¬ g + a = h := fun a ha => by omega
  have dab : ∀ a b, a ≤ 12 → b ≤ 12 → ¬ g + a = h + b := fun a b ha hb => by omega
  have tI : ∀ a, sT σ a = 0 → isI (sT σ a) = true := fun a e => by rw [e]; rfl
  have m1 := fun M Q => c27 (M := M) (σ := σ) (Q := Q) (a := g + 1) (b := h + 1) (n := 10) (by omega) (tI _ (ig_t1 hg)) (ig_t1 hh) (ig_l1 hg) (ig_l1 hh) (by omega)
  have m2 := fun M Q => c27 (M := M) (σ := σ) (Q := Q) (a := g + 2) (b := h + 2) (n := 10) (by omega) (tI _ (ig_t2 hg)) (ig_t2 hh) (ig_l2 hg) (ig_l2 hh) (by omega)
  have m3 := fun M Q => c27 (M := M) (σ := σ) (Q := Q) (a := g + 3) (b := h + 3) (n := 16) (by omega) (tI _ (ig_t3 hg)) (ig_t3 hh) (ig_l3 hg) (ig_l3 hh) (by omega)
  have m4 := fun M Q => c27 (M := M) (σ := σ) (Q := Q) (a := g + 4) (b := h + 4) (n := 16) (by omega) (tI _ (ig_t4 hg)) (ig_t4 hh) (ig_l4 hg) (ig_l4 hh) (by omega)
  have m5 := fun M Q => c27 (M := M) (σ := σ) (Q := Q) (a := g + 5) (b := h + 5) (n := 16) (by omega) (tI _ (ig_t5 hg)) (ig_t5 hh) (ig_l5 hg) (ig_l5 hh) (by omega)
  have m6 := fun M Q => c27 (M := M) (σ := σ) (Q := Q) (a := g + 6) (b := h + 6) (n := 16) (by omega) (tI _ (ig_t6 hg)) (ig_t6 hh) (ig_l6 hg) (ig_l6 hh) (by omega)
  have m7 := fun M Q => c27 (M := M) (σ := σ) (Q := Q) (a := g + 7) (b := h + 7) (n := 16) (by omega) (tI _ (ig_t7 hg)) (ig_t7 hh) (ig_l7 hg) (ig_l7 hh) (by omega)
  have m8 := fun M Q => c27 (M := M) (σ := σ) (Q := Q) (a := g + 8) (b := h + 8) (n := 16) (by omega) (tI _ (ig_t8 hg)) (ig_t8 hh) (ig_l8 hg) (ig_l8 hh) (by omega)
  have m9 := fun M Q => c27 (M := M) (σ := σ) (Q := Q) (a := g + 9) (b := h + 9) (n := 7) (by omega) (tI _ (ig_t9 hg)) (ig_t9 hh) (ig_l9 hg) (ig_l9 hh) (by omega)
  have m10 := fun M Q => c27 (M := M) (σ := σ) (Q := Q) (a := g + 10) (b := h + 10) (n := 3) (by omega) (tI _ (ig_t10 hg)) (ig_t10 hh) (ig_l10 hg) (ig_l10 hh) (by omega)
  refine ⟨?_, fun Q => ?_, ?_⟩
  rotate_left
  · simp only [k37_0, k37_1, k37_4, k37_5, k37_8, k37_9, k37_10, k37_11, k37_14, k37_17, k37_18, k37_21, k37_22, k37_25, k37_28, k37_29, k37_32, k37_33, k37_36, k37_39, k37_40, k37_41, k37_44, k37_47, k37_48, k37_51, k37_52, k37_55, k37_58, k37_59, k37_62, k37_63, k37_66, k37_69, k37_70, k37_73, k37_74, k37_77, k37_80, k37_81, k37_84, k37_85, k37_88, k37_91, k37_92, k37_95, k37_96, k37_99, k37_102, k37_103, k37_106, k37_107, k37_110, k37_113, k37_114, k37_115, k37_118, k37_121, k37_122, k37_123, k37_126, k37_129, k37_130, k37_133, k37_134, k37_137, k37_140, k37_141, k37_142, k37_145, k37_148, k37_149, k37_152, k37_153, k37_156, ig_t0 hg, ig_t1 hg, ig_t2 hg, ig_t3 hg, ig_t4 hg, ig_t5 hg, ig_t6 hg, ig_t7 hg, ig_t8 hg, ig_t9 hg, ig_t10 hg, ig_t11 hg, ig_t12 hg, ig_l1 hg, ig_l2 hg, ig_l3 hg, ig_l4 hg, ig_l5 hg, ig_l6 hg, ig_l7 hg, ig_l8 hg, ig_l9 hg, ig_l10 hg, ig_l12 hg, ig_r1 hg, ig_r2 hg, ig_r4 hg, ig_r5 hg, ig_r6 hg, ig_r7 hg, ig_r8 hg, ig_r9 hg, ig_r12 hg, ig_r14 hg, ig_r15 hg, ig_rw hg, ig_t0 hh, ig_t1 hh, ig_t2 hh, ig_t3 hh, ig_t4 hh, ig_t5 hh, ig_t6 hh, ig_t7 hh, ig_t8 hh, ig_t9 hh, ig_t10 hh, ig_t11 hh, ig_t12 hh, ig_l1 hh, ig_l2 hh, ig_l3 hh, ig_l4 hh, ig_l5 hh, ig_l6 hh, ig_l7 hh, ig_l8 hh, ig_l9 hh, ig_l10 hh, ig_l12 hh, ig_r1 hh, ig_r2 hh, ig_r4 hh, ig_r5 hh, ig_r6 hh, ig_r7 hh, ig_r8 hh, ig_r9 hh, ig_r12 hh, ig_r14 hh, ig_r15 hh, ig_rw hh, rf_s, pushR_s, pushR_n, le4_0, le4_1, le4_2, le4_3, le4_4, isLong_n, isLong_i, isLong_r, isLong_f, if_true, if_false, not_true_eq_false, not_false_eq_true, isI_0, isI_9, isAr_0, isAr_1, isAr_2, isAr_9, okR_i, okR_0, okR_1, putI_0, putI_b0, putI_b1, nI_10, nI_00, Nat.reduceLT, Nat.reduceLeDiff, nI_add, upM_s, upI_s, pk_mul, nf_at, upI_n, upM_n, ne_eq, Nat.reduceEqDiff, d00, d0b, da0, dab, Nat.add_left_cancel_iff, Nat.add_eq_left, Nat.left_eq_add, m1, m2, m3, m4, m5, m6, m7, m8, m9, m10]
    rfl
  · refine ⟨RJ_of ?_ ?_ ?_ ?_ ?_ ?_ ?_ ?_ ?_ ?_ ?_ ?_ ?_ ?_ ?_, fun o ho => ?_⟩
    · simp only [upI_n, upM_n, ne_eq, Nat.reduceEqDiff, upM_s, upI_s, not_false_eq_true, Nat.add_left_cancel_iff, Nat.add_eq_left, Nat.left_eq_add]
      exact rg_pc R
    · intro k hk
      simp only [upI_n, upM_n, ne_eq, Nat.reduceEqDiff, upM_s, upI_s, not_false_eq_true, Nat.add_left_cancel_iff, Nat.add_eq_left, Nat.left_eq_add, cp_lt hk]
      exact rg_came R k hk
    · intro k hk
      simp only [upI_n, upM_n, ne_eq, Nat.reduceEqDiff, upM_s, upI_s, not_false_eq_true, Nat.add_left_cancel_iff, Nat.add_eq_left, Nat.left_eq_add, cp_lt hk]
      exact rg_stk R k hk
    · simp only [upI_n, upM_n, ne_eq, Nat.reduceEqDiff, upM_s, upI_s, not_false_eq_true, Nat.add_left_cancel_iff, Nat.add_eq_left, Nat.left_eq_add]
      exact rg_nc R
    · intro k hk
      simp only [upI_n, upM_n, ne_eq, Nat.reduceEqDiff, upM_s, upI_s, not_false_eq_true, Nat.add_left_cancel_iff, Nat.add_eq_left, Nat.left_eq_add, cp_lt hk]
      exact rg_one R k hk
    · intro k hk
      simp only [upI_n, upM_n, ne_eq, Nat.reduceEqDiff, upM_s, upI_s, not_false_eq_true, Nat.add_left_cancel_iff, Nat.add_eq_left, Nat.left_eq_add, cp_lt hk]
      exact rg_oth R k hk
    · intro k hk
      simp only [upI_n, upM_n, ne_eq, Nat.reduceEqDiff, upM_s, upI_s, not_false_eq_true, Nat.add_left_cancel_iff, Nat.add_eq_left, Nat.left_eq_add, cp_lt hk]
      exact rg_len R k hk
    · intro k hk
      simp only [upI_n, upM_n, ne_eq, Nat.reduceEqDiff, upM_s, upI_s, not_false_eq_true, Nat.add_left_cancel_iff, Nat.add_eq_left, Nat.left_eq_add, cp_lt hk]
      exact rg_trl R k hk
    · intro k hk
      simp only [upI_n, upM_n, ne_eq, Nat.reduceEqDiff, upM_s, upI_s, not_false_eq_true, Nat.add_left_cancel_iff, Nat.add_eq_left, Nat.left_eq_add, cp_lt hk]
      exact rg_wal R k hk
    · intro k hk
      simp only [upI_n, upM_n, ne_eq, Nat.reduceEqDiff, upM_s, upI_s, not_false_eq_true, Nat.add_left_cancel_iff, Nat.add_eq_left, Nat.left_eq_add, cp_lt hk]
      exact rg_clo R k hk
    · simp only [upI_n, upM_n, ne_eq, Nat.reduceEqDiff, upM_s, upI_s, not_false_eq_true, Nat.add_left_cancel_iff, Nat.add_eq_left, Nat.left_eq_add]
      exact rg_food R
    · simp only [upI_n, upM_n, ne_eq, Nat.reduceEqDiff, upM_s, upI_s, not_false_eq_true, Nat.add_left_cancel_iff, Nat.add_eq_left, Nat.left_eq_add]
      exact rg_x R
    · intro k hk
      simp only [upI_n, upM_n, ne_eq, Nat.reduceEqDiff, upM_s, upI_s, not_false_eq_true, Nat.add_left_cancel_iff, Nat.add_eq_left, Nat.left_eq_add, cp_lt hk]
      exact rg_set R k hk
    · simp only [upI_n, upM_n, ne_eq, Nat.reduceEqDiff, upM_s, upI_s, not_false_eq_true, Nat.add_left_cancel_iff, Nat.add_eq_left, Nat.left_eq_add]
      exact rg_laps R
    · intro k hk
      simp only [upI_n, upM_n, ne_eq, Nat.reduceEqDiff, upM_s, upI_s, not_false_eq_true, Nat.add_left_cancel_iff, Nat.add_eq_left, Nat.left_eq_add, cp_lt hk]
      exact rg_end R k hk
    · have n : ∀ b, b ≤ 10 → ¬ o = h + b := fun b hb => by omega
      have n0 : ¬ o = h := by omega
      simp only [upI_n, upM_n, ne_eq, Nat.reduceEqDiff, not_false_eq_true, n, n0, Nat.reduceLeDiff]
theorem c37 (hg : IsG σ g) (hh : IsG σ h) (d : g + 12 < h ∨ h + 12 < g) (R : RG M g s) (i : Inv s) : ∃ M', (∀ Q, wp 37 0 [some (.ref g), some (.ref h)] [] σ M Q = Q none σ M') ∧ RG M' h s ∧ FG M M' h := by
  obtain ⟨P, a1, a2, a3⟩ := c37A hg hh d R
  obtain ⟨W, w1, w2⟩ := rg_best R
  have ok := BW_ok i w2
  have wP : RW P (g + 11) W := RW_fr w1 (a3 _ (by omega)) (a3 _ (by omega))
  obtain ⟨N, b1, b2, b3⟩ := c93 (ig_way hg) (ig_way hh) (by omega) (by omega) (by omega) wP ok.1
  have e16 : N g 16 = M g 16 := by rw [b3 g (by omega) (by omega), a3 g (by omega)]
  refine ⟨upM N h (upI (N h) 16 (M g 16)), fun Q => ?_, RG_of (fun j hj => ?_) (fun h9 => ?_) ⟨W, RW_fr b2 (upM_n (by omega)) (upM_n (by omega)), w2⟩, fun o ho => by rw [upM_n (by omega), b3 o (by omega) (by omega), a3 o (by omega)]⟩
  · rw [a1]
    simp only [k37_159, k37_160, k37_163, k37_164, k37_167, k37_170, k37_171, k37_172, k37_175, k37_178, ig_t0 hg, ig_t1 hg, ig_t2 hg, ig_t3 hg, ig_t4 hg, ig_t5 hg, ig_t6 hg, ig_t7 hg, ig_t8 hg, ig_t9 hg, ig_t10 hg, ig_t11 hg, ig_t12 hg, ig_l1 hg, ig_l2 hg, ig_l3 hg, ig_l4 hg, ig_l5 hg, ig_l6 hg, ig_l7 hg, ig_l8 hg, ig_l9 hg, ig_l10 hg, ig_l12 hg, ig_r1 hg, ig_r2 hg, ig_r4 hg, ig_r5 hg, ig_r6 hg, ig_r7 hg, ig_r8 hg, ig_r9 hg, ig_r12 hg, ig_r14 hg, ig_r15 hg, ig_rw hg, ig_t0 hh, ig_t1 hh, ig_t2 hh, ig_t3 hh, ig_t4 hh, ig_t5 hh, ig_t6 hh, ig_t7 hh, ig_t8 hh, ig_t9 hh, ig_t10 hh, ig_t11 hh, ig_t12 hh, ig_l1 hh, ig_l2 hh, ig_l3 hh, ig_l4 hh, ig_l5 hh, ig_l6 hh, ig_l7 hh, ig_l8 hh, ig_l9 hh, ig_l10 hh, ig_l12 hh, ig_r1 hh, ig_r2 hh, ig_r4 hh, ig_r5 hh, ig_r6 hh, ig_r7 hh, ig_r8 hh, ig_r9 hh, ig_r12 hh, ig_r14 hh, ig_r15 hh, ig_rw hh, rf_s, pushR_s, pushR_n, le4_0, le4_1, le4_2, le4_3, le4_4, isLong_n, isLong_i, isLong_r, isLong_f, if_true, if_false, not_true_eq_false, not_false_eq_true, isI_0, isI_9, isAr_0, isAr_1, isAr_2, isAr_9, okR_i, okR_0, okR_1, putI_0, putI_b0, putI_b1, nI_10, nI_00, Nat.reduceLT, Nat.reduceLeDiff, nI_add, upM_s, upI_s, pk_mul, nf_at, b1, e16]
  · have ge := @lo_ge h j
    have q := a2 j hj
    by_cases c : lo h j = h
    · rw [c, upM_s, upI_n, b3 h (by omega) (by omega), ← c]
      · exact q
      · intro e
        unfold J at hj
        by_cases c0 : j < 9
        · have : j = 0 ∨ j = 1 ∨ j = 2 ∨ j = 4 ∨ j = 5 ∨ j = 6 ∨ j = 7 ∨ j = 8 := by omega
          rcases this with z | z | z | z | z | z | z | z <;> subst z <;> revert e <;> decide
        · have hj2 : J j := hj
          have l := iv_ok hj2
          rw [lo_0] at c
          rw [show lo 0 j = 0 by omega, e] at l
          have : iv 0 16 = 8 := by decide
          omega
    · rw [upM_n c, b3 _ (by omega) (by omega)]
      exact q
  · rw [upM_s, upI_s]
    exact rg_bl R h9
end CPY
