/-- nothing but a ground was changed -/
def FG (M M' : Mem) (g : Nat) : Prop := ∀ o, o < g ∨ g + 12 < o → M' o = M o
theorem FG_r {M : Mem} {g : Nat} : FG M M g := fun _ _ => rfl
theorem FG_t {M N P : Mem} {g : Nat} (h : FG M N g) (k : FG N P g) : FG M P g := fun o ho => (k o ho).trans (h o ho)
theorem FG_u {M : Mem} {g o : Nat} {f : Nat → Int32} (h1 : g ≤ o) (h2 : o ≤ g + 12) : FG M (upM M o f) g := fun p hp => upM_n (by omega)
/-- the zeros that paths to come have, and how ants ended -/
def Ex (s : Nat → Nat) : Prop := s 3 = s 4 + s 5 + s 6 ∧ ∀ k, s 1 ≤ k → k < 16 → s (30 + 6 * k + 4) = 0 ∧ s (30 + 6 * k + 5) = 0
theorem upN_self {f : Nat → Nat} {j x : Nat} (h : f j = x) : upN f j x = f := by
  funext i
  unfold upN
  split
  · rename_i e
    rw [e, h]
  · rfl
theorem RG_best {M N : Mem} {g : Nat} {s t : Nat → Nat} (r : RG M g s) (f : ∀ o, g ≤ o → o ≤ g + 10 → N o = M o) (w : ∃ W, RW N (g + 11) W ∧ BW t W) (e : ∀ j, J j → t j = s j) (b : t 9 ≠ 0 → N g 16 = nI (t 11)) : RG N g t := RG_of (fun j hj => by
  have ge := @lo_ge g j
  rw [f _ ge.1 ge.2, e j hj]
  exact RG_to r j hj) b w
section GND
variable {σ : Sg} {M : Mem} {g : Nat} {s s' : Nat → Nat} {r : Int32}
theorem c52 (hg : IsG σ g) (R : RG M g s) (i : Inv s) (o : oPlace s r s') : ∃ M', (∀ Q, wp 52 0 [some (.ref g)] [] σ M Q = Q (some (.int r)) σ M') ∧ RG M' g s' ∧ FG M M' g := by
  have g0 := i.1.1
  rcases o with ⟨h1, h2, h3⟩ | ⟨h1, h2, h3⟩
  · subst h2 h3
    refine ⟨M, fun Q => ?_, R, FG_r⟩
    have z : ¬ nI 10 < nI 10 := by decide
    simp only [k52_0, k52_1, k52_4, k52_6, k52_9, k52_11, k52_12, k52_13i, k52_13r, k52_13f, k52_14, k52_17, k52_18, k52_19, k52_22, k52_23, k52_26, k52_27, k52_28, ig_t0 hg, ig_t1 hg, ig_t2 hg, ig_t3 hg, ig_t4 hg, ig_t5 hg, ig_t6 hg, ig_t7 hg, ig_t8 hg, ig_t9 hg, ig_t10 hg, ig_t11 hg, ig_t12 hg, ig_l1 hg, ig_l2 hg, ig_l3 hg, ig_l4 hg, ig_l5 hg, ig_l6 hg, ig_l7 hg, ig_l8 hg, ig_l9 hg, ig_l10 hg, ig_l12 hg, ig_r1 hg, ig_r2 hg, ig_r4 hg, ig_r5 hg, ig_r6 hg, ig_r7 hg, ig_r8 hg, ig_r9 hg, ig_r12 hg, ig_r14 hg, ig_r15 hg, ig_rw hg, rf_s, pushR_s, pushR_n, le4_0, le4_1, le4_2, le4_3, le4_4, isLong_n, isLong_i, isLong_r, isLong_f, if_true, if_false, not_true_eq_false, not_false_eq_true, isI_0, isI_9, isAr_0, isAr_1, isAr_2, isAr_9, okR_i, okR_0, okR_1, putI_0, putI_b0, putI_b1, nI_10, nI_00, Nat.reduceLT, Nat.reduceLeDiff, nI_add, upM_s, upI_s, pk_mul, nf_at, rg_pc R, h1, z]
  · subst h2 h3
    have z : nI (s 0) < nI 10 := nI_lt h1 (by omega)
    have d : nI (s 0 + 1) - nI 1 = nI (s 0) := by rw [pk_sub (by omega)]; rfl
    refine ⟨upM M g (upI (M g) 0 (nI (s 0 + 1))), fun Q => ?_, RG_up R i.2.2.2.2.2 (j := 0) (by unfold J; omega) rfl rfl, FG_u (by omega) (by omega)⟩
    simp only [k52_0, k52_1, k52_4, k52_6, k52_9, k52_11, k52_12, k52_13i, k52_13r, k52_13f, k52_14, k52_17, k52_18, k52_19, k52_22, k52_23, k52_26, k52_27, k52_28, ig_t0 hg, ig_t1 hg, ig_t2 hg, ig_t3 hg, ig_t4 hg, ig_t5 hg, ig_t6 hg, ig_t7 hg, ig_t8 hg, ig_t9 hg, ig_t10 hg, ig_t11 hg, ig_t12 hg, ig_l1 hg, ig_l2 hg, ig_l3 hg, ig_l4 hg, ig_l5 hg, ig_l6 hg, ig_l7 hg, ig_l8 hg, ig_l9 hg, ig_l10 hg, ig_l12 hg, ig_r1 hg, ig_r2 hg, ig_r4 hg, ig_r5 hg, ig_r6 hg, ig_r7 hg, ig_r8 hg, ig_r9 hg, ig_r12 hg, ig_r14 hg, ig_r15 hg, ig_rw hg, rf_s, pushR_s, pushR_n, le4_0, le4_1, le4_2, le4_3, le4_4, isLong_n, isLong_i, isLong_r, isLong_f, if_true, if_false, not_true_eq_false, not_false_eq_true, isI_0, isI_9, isAr_0, isAr_1, isAr_2, isAr_9, okR_i, okR_0, okR_1, putI_0, putI_b0, putI_b1, nI_10, nI_00, Nat.reduceLT, Nat.reduceLeDiff, nI_add, upM_s, upI_s, pk_mul, nf_at, rg_pc R, z, d]
theorem c53 (hg : IsG σ g) (R : RG M g s) (i : Inv s) (x : Ex s) {a b l : Int32} (o : oPath s a b l r s') : ∃ M', (∀ Q, wp 53 0 [some (.ref g), some (.int a), some (.int b), some (.int l), none] [] σ M Q = Q (some (.int r)) σ M') ∧ RG M' g s' ∧ FG M M' g := by
  have g0 := i.1.1
  have g1 := i.1.2.1
  have h10 := i.2.2.2.2.2
  have py := fun {p} (h : p < s 0) Q => c38y (Q := Q) hg R i h
  have pn := fun {v} (h : ¬ ∃ p, p < s 0 ∧ v = nI p) Q => c38n (Q := Q) hg R i h
  rcases o with ⟨a, b, l, e1, e2, e3, ha, hb, hab, hl1, hl2, h⟩ | ⟨h, e4, e5⟩
  · subst e1 e2 e3
    have ne : ¬ nI a = nI b := ne_n (by omega) (by omega) hab
    have il := inI_c (v := nI l) (a := 1) (b := 20) (by omega) (by omega) hl1 hl2 rfl
    have z0 : ¬ nI (s 1) < 0 := nI_pos (by omega)
    rcases h with ⟨h1, h2, h3⟩ | ⟨h1, h2, h3⟩
    · subst h2 h3
      have z : ¬ nI (s' 1) < nI 16 := nI_nlt (by omega) (by omega)
      refine ⟨M, fun Q => ?_, R, FG_r⟩
      simp only [k53_0, k53_1, k53_2, k53_5, k53_8, k53_9, k53_10, k53_13, k53_16, k53_17, k53_18, k53_21, k53_22, k53_23, k53_25, k53_28, k53_31, k53_33, k53_34, k53_35, k53_38, k53_41, k53_42, k53_45, k53_47, k53_50, k53_52, k53_53, k53_54, k53_57, k53_59, k53_60, k53_63, k53_65, k53_66, k53_67, k53_68, k53_71, k53_73, k53_74, k53_75, k53_76, k53_79, k53_81, k53_82, k53_83, k53_84, k53_87, k53_89, k53_90, k53_91, k53_94, k53_95, k53_96i, k53_96r, k53_96f, k53_97, k53_100, k53_101, k53_102, k53_105, k53_107, ig_t0 hg, ig_t1 hg, ig_t2 hg, ig_t3 hg, ig_t4 hg, ig_t5 hg, ig_t6 hg, ig_t7 hg, ig_t8 hg, ig_t9 hg, ig_t10 hg, ig_t11 hg, ig_t12 hg, ig_l1 hg, ig_l2 hg, ig_l3 hg, ig_l4 hg, ig_l5 hg, ig_l6 hg, ig_l7 hg, ig_l8 hg, ig_l9 hg, ig_l10 hg, ig_l12 hg, ig_r1 hg, ig_r2 hg, ig_r4 hg, ig_r5 hg, ig_r6 hg, ig_r7 hg, ig_r8 hg, ig_r9 hg, ig_r12 hg, ig_r14 hg, ig_r15 hg, ig_rw hg, rf_s, pushR_s, pushR_n, le4_0, le4_1, le4_2, le4_3, le4_4, isLong_n, isLong_i, isLong_r, isLong_f, if_true, if_false, not_true_eq_false, not_false_eq_true, isI_0, isI_9, isAr_0, isAr_1, isAr_2, isAr_9, okR_i, okR_0, okR_1, putI_0, putI_b0, putI_b1, nI_10, nI_00, Nat.reduceLT, Nat.reduceLeDiff, nI_add, upM_s, upI_s, pk_mul, nf_at, py ha, py hb, ne, c24, il, rg_nc R, z0, z]
    · subst h2 h3
      have z : nI (s 1) < nI 16 := nI_lt h1 (by omega)
      have r1 := RG_up R h10 (j := 30 + 6 * s 1 + 0) (x := a) (by unfold J; omega) (lo_p0 h1) (li_p h1 (by omega))
      have r2 := RG_up r1 (by rw [upN_n (by omega)]; exact h10) (j := 30 + 6 * s 1 + 1) (x := b) (by unfold J; omega) (lo_p1 h1) (li_p h1 (by omega))
      have r3 := RG_up r2 (by rw [upN_n (by omega), upN_n (by omega)]; exact h10) (j := 30 + 6 * s 1 + 2) (x := l) (by unfold J; omega) (lo_p2 h1) (li_p h1 (by omega))
      have m := fun Q => c43 (Q := Q) hg r3 (k := 4) (by omega)
      rw [upN_n (by omega), upN_n (by omega), upN_n (by omega)] at m
      have r4 := RG_up r3 (by rw [upN_n (by omega), upN_n (by omega), upN_n (by omega)]; exact h10) (j := 30 + 6 * s 1 + 3) (x := s 17) (by unfold J; omega) (lo_p3 h1) (li_p h1 (by omega))
      have e4 := rg_nc r4
      rw [upN_n (by omega), upN_n (by omega), upN_n (by omega), upN_n (by omega)] at e4
      have r5 := RG_up r4 (by rw [upN_n (by omega), upN_n (by omega), upN_n (by omega), upN_n (by omega)]; exact h10) (j := 1) (x := s 1 + 1) (o := g) (i := 3) (by unfold J; omega) rfl rfl
      have eq : gPath s a b l = upN (upN (upN (upN (upN s (30 + 6 * s 1 + 0) a) (30 + 6 * s 1 + 1) b) (30 + 6 * s 1 + 2) l) (30 + 6 * s 1 + 3) (s 17)) 1 (s 1 + 1) := by
        obtain ⟨x4, x5⟩ := x.2 (s 1) (Nat.le_refl _) h1
        unfold gPath
        rw [upN_self (f := upN (upN (upN (upN s (30 + 6 * s 1 + 0) a) (30 + 6 * s 1 + 1) b) (30 + 6 * s 1 + 2) l) (30 + 6 * s 1 + 3) (s 17)) (j := 30 + 6 * s 1 + 4) (x := 0) (by rw [upN_n (by omega), upN_n (by omega), upN_n (by omega), upN_n (by omega)]; exact x4)]
        rw [upN_self (f := upN (upN (upN (upN s (30 + 6 * s 1 + 0) a) (30 + 6 * s 1 + 1) b) (30 + 6 * s 1 + 2) l) (30 + 6 * s 1 + 3) (s 17)) (j := 30 + 6 * s 1 + 5) (x := 0) (by rw [upN_n (by omega), upN_n (by omega), upN_n (by omega), upN_n (by omega)]; exact x5)]
      rw [eq]
      refine ⟨_, fun Q => ?_, r5, FG_t (FG_t (FG_t (FG_t (FG_u (by omega) (by omega)) (FG_u (by omega) (by omega))) (FG_u (by omega) (by omega))) (FG_u (by omega) (by omega))) (FG_u (by omega) (by omega))⟩
      simp only [k53_0, k53_1, k53_2, k53_5, k53_8, k53_9, k53_10, k53_13, k53_16, k53_17, k53_18, k53_21, k53_22, k53_23, k53_25, k53_28, k53_31, k53_33, k53_34, k53_35, k53_38, k53_41, k53_42, k53_45, k53_47, k53_50, k53_52, k53_53, k53_54, k53_57, k53_59, k53_60, k53_63, k53_65, k53_66, k53_67, k53_68, k53_71, k53_73, k53_74, k53_75, k53_76, k53_79, k53_81, k53_82, k53_83, k53_84, k53_87, k53_89, k53_90, k53_91, k53_94, k53_95, k53_96i, k53_96r, k53_96f, k53_97, k53_100, k53_101, k53_102, k53_105, k53_107, ig_t0 hg, ig_t1 hg, ig_t2 hg, ig_t3 hg, ig_t4 hg, ig_t5 hg, ig_t6 hg, ig_t7 hg, ig_t8 hg, ig_t9 hg, ig_t10 hg, ig_t11 hg, ig_t12 hg, ig_l1 hg, ig_l2 hg, ig_l3 hg, ig_l4 hg, ig_l5 hg, ig_l6 hg, ig_l7 hg, ig_l8 hg, ig_l9 hg, ig_l10 hg, ig_l12 hg, ig_r1 hg, ig_r2 hg, ig_r4 hg, ig_r5 hg, ig_r6 hg, ig_r7 hg, ig_r8 hg, ig_r9 hg, ig_r12 hg, ig_r14 hg, ig_r15 hg, ig_rw hg, rf_s, pushR_s, pushR_n, le4_0, le4_1, le4_2, le4_3, le4_4, isLong_n, isLong_i, isLong_r, isLong_f, if_true, if_false, not_true_eq_false, not_false_eq_true, isI_0, isI_9, isAr_0, isAr_1, isAr_2, isAr_9, okR_i, okR_0, okR_1, putI_0, putI_b0, putI_b1, nI_10, nI_00, Nat.reduceLT, Nat.reduceLeDiff, nI_add, upM_s, upI_s, pk_mul, nf_at, py ha, py hb, ne, c24, il, rg_nc R, z0, z, h1, m, e4, Nat.reduceAdd]
  · rw [e4, e5]
    refine ⟨M, fun Q => ?_, R, FG_r⟩
    rcases h with h | ⟨⟨a, ha, e1⟩, h⟩ | ⟨⟨a, ha, e1⟩, ⟨b, hb, e2⟩, h⟩ | ⟨⟨a, ha, e1⟩, ⟨b, hb, e2⟩, ne, h⟩
    · simp only [k53_0, k53_1, k53_2, k53_5, k53_8, k53_9, k53_10, k53_13, k53_16, k53_17, k53_18, k53_21, k53_22, k53_23, k53_25, k53_28, k53_31, k53_33, k53_34, k53_35, k53_38, k53_41, k53_42, k53_45, k53_47, k53_50, k53_52, k53_53, k53_54, k53_57, k53_59, k53_60, k53_63, k53_65, k53_66, k53_67, k53_68, k53_71, k53_73, k53_74, k53_75, k53_76, k53_79, k53_81, k53_82, k53_83, k53_84, k53_87, k53_89, k53_90, k53_91, k53_94, k53_95, k53_96i, k53_96r, k53_96f, k53_97, k53_100, k53_101, k53_102, k53_105, k53_107, ig_t0 hg, ig_t1 hg, ig_t2 hg, ig_t3 hg, ig_t4 hg, ig_t5 hg, ig_t6 hg, ig_t7 hg, ig_t8 hg, ig_t9 hg, ig_t10 hg, ig_t11 hg, ig_t12 hg, ig_l1 hg, ig_l2 hg, ig_l3 hg, ig_l4 hg, ig_l5 hg, ig_l6 hg, ig_l7 hg, ig_l8 hg, ig_l9 hg, ig_l10 hg, ig_l12 hg, ig_r1 hg, ig_r2 hg, ig_r4 hg, ig_r5 hg, ig_r6 hg, ig_r7 hg, ig_r8 hg, ig_r9 hg, ig_r12 hg, ig_r14 hg, ig_r15 hg, ig_rw hg, rf_s, pushR_s, pushR_n, le4_0, le4_1, le4_2, le4_3, le4_4, isLong_n, isLong_i, isLong_r, isLong_f, if_true, if_false, not_true_eq_false, not_false_eq_true, isI_0, isI_9, isAr_0, isAr_1, isAr_2, isAr_9, okR_i, okR_0, okR_1, putI_0, putI_b0, putI_b1, nI_10, nI_00, Nat.reduceLT, Nat.reduceLeDiff, nI_add, upM_s, upI_s, pk_mul, nf_at, pn h]
    · subst e1
      simp only [k53_0, k53_1, k53_2, k53_5, k53_8, k53_9, k53_10, k53_13, k53_16, k53_17, k53_18, k53_21, k53_22, k53_23, k53_25, k53_28, k53_31, k53_33, k53_34, k53_35, k53_38, k53_41, k53_42, k53_45, k53_47, k53_50, k53_52, k53_53, k53_54, k53_57, k53_59, k53_60, k53_63, k53_65, k53_66, k53_67, k53_68, k53_71, k53_73, k53_74, k53_75, k53_76, k53_79, k53_81, k53_82, k53_83, k53_84, k53_87, k53_89, k53_90, k53_91, k53_94, k53_95, k53_96i, k53_96r, k53_96f, k53_97, k53_100, k53_101, k53_102, k53_105, k53_107, ig_t0 hg, ig_t1 hg, ig_t2 hg, ig_t3 hg, ig_t4 hg, ig_t5 hg, ig_t6 hg, ig_t7 hg, ig_t8 hg, ig_t9 hg, ig_t10 hg, ig_t11 hg, ig_t12 hg, ig_l1 hg, ig_l2 hg, ig_l3 hg, ig_l4 hg, ig_l5 hg, ig_l6 hg, ig_l7 hg, ig_l8 hg, ig_l9 hg, ig_l10 hg, ig_l12 hg, ig_r1 hg, ig_r2 hg, ig_r4 hg, ig_r5 hg, ig_r6 hg, ig_r7 hg, ig_r8 hg, ig_r9 hg, ig_r12 hg, ig_r14 hg, ig_r15 hg, ig_rw hg, rf_s, pushR_s, pushR_n, le4_0, le4_1, le4_2, le4_3, le4_4, isLong_n, isLong_i, isLong_r, isLong_f, if_true, if_false, not_true_eq_false, not_false_eq_true, isI_0, isI_9, isAr_0, isAr_1, isAr_2, isAr_9, okR_i, okR_0, okR_1, putI_0, putI_b0, putI_b1, nI_10, nI_00, Nat.reduceLT, Nat.reduceLeDiff, nI_add, upM_s, upI_s, pk_mul, nf_at, py ha, pn h]
    · subst e1
      subst h
      simp only [k53_0, k53_1, k53_2, k53_5, k53_8, k53_9, k53_10, k53_13, k53_16, k53_17, k53_18, k53_21, k53_22, k53_23, k53_25, k53_28, k53_31, k53_33, k53_34, k53_35, k53_38, k53_41, k53_42, k53_45, k53_47, k53_50, k53_52, k53_53, k53_54, k53_57, k53_59, k53_60, k53_63, k53_65, k53_66, k53_67, k53_68, k53_71, k53_73, k53_74, k53_75, k53_76, k53_79, k53_81, k53_82, k53_83, k53_84, k53_87, k53_89, k53_90, k53_91, k53_94, k53_95, k53_96i, k53_96r, k53_96f, k53_97, k53_100, k53_101, k53_102, k53_105, k53_107, ig_t0 hg, ig_t1 hg, ig_t2 hg, ig_t3 hg, ig_t4 hg, ig_t5 hg, ig_t6 hg, ig_t7 hg, ig_t8 hg, ig_t9 hg, ig_t10 hg, ig_t11 hg, ig_t12 hg, ig_l1 hg, ig_l2 hg, ig_l3 hg, ig_l4 hg, ig_l5 hg, ig_l6 hg, ig_l7 hg, ig_l8 hg, ig_l9 hg, ig_l10 hg, ig_l12 hg, ig_r1 hg, ig_r2 hg, ig_r4 hg, ig_r5 hg, ig_r6 hg, ig_r7 hg, ig_r8 hg, ig_r9 hg, ig_r12 hg, ig_r14 hg, ig_r15 hg, ig_rw hg, rf_s, pushR_s, pushR_n, le4_0, le4_1, le4_2, le4_3, le4_4, isLong_n, isLong_i, isLong_r, isLong_f, if_true, if_false, not_true_eq_false, not_false_eq_true, isI_0, isI_9, isAr_0, isAr_1, isAr_2, isAr_9, okR_i, okR_0, okR_1, putI_0, putI_b0, putI_b1, nI_10, nI_00, Nat.reduceLT, Nat.reduceLeDiff, nI_add, upM_s, upI_s, pk_mul, nf_at, py ha]
    · subst e1 e2
      have il := inI_d (v := l) (a := 1) (b := 20) (by omega) (by omega) h
      simp only [k53_0, k53_1, k53_2, k53_5, k53_8, k53_9, k53_10, k53_13, k53_16, k53_17, k53_18, k53_21, k53_22, k53_23, k53_25, k53_28, k53_31, k53_33, k53_34, k53_35, k53_38, k53_41, k53_42, k53_45, k53_47, k53_50, k53_52, k53_53, k53_54, k53_57, k53_59, k53_60, k53_63, k53_65, k53_66, k53_67, k53_68, k53_71, k53_73, k53_74, k53_75, k53_76, k53_79, k53_81, k53_82, k53_83, k53_84, k53_87, k53_89, k53_90, k53_91, k53_94, k53_95, k53_96i, k53_96r, k53_96f, k53_97, k53_100, k53_101, k53_102, k53_105, k53_107, ig_t0 hg, ig_t1 hg, ig_t2 hg, ig_t3 hg, ig_t4 hg, ig_t5 hg, ig_t6 hg, ig_t7 hg, ig_t8 hg, ig_t9 hg, ig_t10 hg, ig_t11 hg, ig_t12 hg, ig_l1 hg, ig_l2 hg, ig_l3 hg, ig_l4 hg, ig_l5 hg, ig_l6 hg, ig_l7 hg, ig_l8 hg, ig_l9 hg, ig_l10 hg, ig_l12 hg, ig_r1 hg, ig_r2 hg, ig_r4 hg, ig_r5 hg, ig_r6 hg, ig_r7 hg, ig_r8 hg, ig_r9 hg, ig_r12 hg, ig_r14 hg, ig_r15 hg, ig_rw hg, rf_s, pushR_s, pushR_n, le4_0, le4_1, le4_2, le4_3, le4_4, isLong_n, isLong_i, isLong_r, isLong_f, if_true, if_false, not_true_eq_false, not_false_eq_true, isI_0, isI_9, isAr_0, isAr_1, isAr_2, isAr_9, okR_i, okR_0, okR_1, putI_0, putI_b0, putI_b1, nI_10, nI_00, Nat.reduceLT, Nat.reduceLeDiff, nI_add, upM_s, upI_s, pk_mul, nf_at, py ha, py hb, ne, c24, il]
theorem c54 (hg : IsG σ g) (R : RG M g s) (i : Inv s) {x : Int32} {c : Nat} (hc : c ≤ 1) (o : oClose s x c r s') : ∃ M', (∀ Q, wp 54 0 [some (.ref g), some (.int x), some (.int (nI c))] [] σ M Q = Q (some (.int r)) σ M') ∧ RG M' g s' ∧ FG M M' g := by
  have g1 := i.1.2.1
  rcases o with ⟨k, e, hk, h⟩ | ⟨h, e1, e2⟩
  · subst e
    have py := fun Q => c39y (Q := Q) hg R i hk
    have m := fun Q => c42 (Q := Q) hg R i hk
    have pc := (i.1.2.2 k hk).2.2.2.2.2.2.2
    have h16 : k < 16 := by omega
    rcases h with ⟨h1, h2, h3⟩ | ⟨h1, h2, h3⟩
    · rw [h2, h3]
      refine ⟨M, fun Q => ?_, R, FG_r⟩
      have ee : nI (s (30 + 6 * k + 4)) = nI c := by rw [h1]
      simp only [k54_0, k54_1, k54_2, k54_5, k54_8, k54_10, k54_11, k54_12, k54_13, k54_16, k54_17, k54_20, k54_22, k54_23, k54_24, k54_27, k54_28, k54_29, k54_32, k54_33, k54_36, k54_37, k54_38, k54_39, k54_42, ig_t0 hg, ig_t1 hg, ig_t2 hg, ig_t3 hg, ig_t4 hg, ig_t5 hg, ig_t6 hg, ig_t7 hg, ig_t8 hg, ig_t9 hg, ig_t10 hg, ig_t11 hg, ig_t12 hg, ig_l1 hg, ig_l2 hg, ig_l3 hg, ig_l4 hg, ig_l5 hg, ig_l6 hg, ig_l7 hg, ig_l8 hg, ig_l9 hg, ig_l10 hg, ig_l12 hg, ig_r1 hg, ig_r2 hg, ig_r4 hg, ig_r5 hg, ig_r6 hg, ig_r7 hg, ig_r8 hg, ig_r9 hg, ig_r12 hg, ig_r14 hg, ig_r15 hg, ig_rw hg, rf_s, pushR_s, pushR_n, le4_0, le4_1, le4_2, le4_3, le4_4, isLong_n, isLong_i, isLong_r, isLong_f, if_true, if_false, not_true_eq_false, not_false_eq_true, isI_0, isI_9, isAr_0, isAr_1, isAr_2, isAr_9, okR_i, okR_0, okR_1, putI_0, putI_b0, putI_b1, nI_10, nI_00, Nat.reduceLT, Nat.reduceLeDiff, nI_add, upM_s, upI_s, pk_mul, nf_at, py, m, ee]
    · rw [h2, h3]
      have ee : ¬ nI (s (30 + 6 * k + 4)) = nI c := ne_n (by omega) (by omega) h1
      have i' := Inv_close i hk hc
      have r1 : RG _ g (gClose s k c) := RG_up R i.2.2.2.2.2 (j := 30 + 6 * k + 4) (x := c) (by unfold J; omega) (lo_p4 h16) (li_p h16 (by omega))
      have m7 := fun Q => c47 (Q := Q) hg r1 i'
      have e1 : gClose s k c 1 = s 1 := upN_n (by omega)
      rw [e1] at m7
      refine ⟨_, fun Q => ?_, r1, FG_u (by omega) (by omega)⟩
      rcases (show c = 0 ∨ c = 1 by omega) with e | e <;> subst e <;> simp only [k54_0, k54_1, k54_2, k54_5, k54_8, k54_10, k54_11, k54_12, k54_13, k54_16, k54_17, k54_20, k54_22, k54_23, k54_24, k54_27, k54_28, k54_29, k54_32, k54_33, k54_36, k54_37, k54_38, k54_39, k54_42, ig_t0 hg, ig_t1 hg, ig_t2 hg, ig_t3 hg, ig_t4 hg, ig_t5 hg, ig_t6 hg, ig_t7 hg, ig_t8 hg, ig_t9 hg, ig_t10 hg, ig_t11 hg, ig_t12 hg, ig_l1 hg, ig_l2 hg, ig_l3 hg, ig_l4 hg, ig_l5 hg, ig_l6 hg, ig_l7 hg, ig_l8 hg, ig_l9 hg, ig_l10 hg, ig_l12 hg, ig_r1 hg, ig_r2 hg, ig_r4 hg, ig_r5 hg, ig_r6 hg, ig_r7 hg, ig_r8 hg, ig_r9 hg, ig_r12 hg, ig_r14 hg, ig_r15 hg, ig_rw hg, rf_s, pushR_s, pushR_n, le4_0, le4_1, le4_2, le4_3, le4_4, isLong_n, isLong_i, isLong_r, isLong_f, if_true, if_false, not_true_eq_false, not_false_eq_true, isI_0, isI_9, isAr_0, isAr_1, isAr_2, isAr_9, okR_i, okR_0, okR_1, putI_0, putI_b0, putI_b1, nI_10, nI_00, Nat.reduceLT, Nat.reduceLeDiff, nI_add, upM_s, upI_s, pk_mul, nf_at, py, m, ee, h16, m7]
  · rw [e1, e2]
    refine ⟨M, fun Q => ?_, R, FG_r⟩
    have pn := fun Q => c39n (Q := Q) hg R i h
    simp only [k54_0, k54_1, k54_2, k54_5, k54_8, k54_10, k54_11, k54_12, k54_13, k54_16, k54_17, k54_20, k54_22, k54_23, k54_24, k54_27, k54_28, k54_29, k54_32, k54_33, k54_36, k54_37, k54_38, k54_39, k54_42, ig_t0 hg, ig_t1 hg, ig_t2 hg, ig_t3 hg, ig_t4 hg, ig_t5 hg, ig_t6 hg, ig_t7 hg, ig_t8 hg, ig_t9 hg, ig_t10 hg, ig_t11 hg, ig_t12 hg, ig_l1 hg, ig_l2 hg, ig_l3 hg, ig_l4 hg, ig_l5 hg, ig_l6 hg, ig_l7 hg, ig_l8 hg, ig_l9 hg, ig_l10 hg, ig_l12 hg, ig_r1 hg, ig_r2 hg, ig_r4 hg, ig_r5 hg, ig_r6 hg, ig_r7 hg, ig_r8 hg, ig_r9 hg, ig_r12 hg, ig_r14 hg, ig_r15 hg, ig_rw hg, rf_s, pushR_s, pushR_n, le4_0, le4_1, le4_2, le4_3, le4_4, isLong_n, isLong_i, isLong_r, isLong_f, if_true, if_false, not_true_eq_false, not_false_eq_true, isI_0, isI_9, isAr_0, isAr_1, isAr_2, isAr_9, okR_i, okR_0, okR_1, putI_0, putI_b0, putI_b1, nI_10, nI_00, Nat.reduceLT, Nat.reduceLeDiff, nI_add, upM_s, upI_s, pk_mul, nf_at, pn]
theorem J_9 {j : Nat} (h : J j) : j ≠ 9 := by
  unfold J at h
  omega
theorem c55 (hg : IsG σ g) (R : RG M g s) (i : Inv s) {x : Int32} (o : oFood s x r s') : ∃ M', (∀ Q, wp 55 0 [some (.ref g), some (.int x), none] [] σ M Q = Q (some (.int r)) σ M') ∧ RG M' g s' ∧ FG M M' g := by
  have g0 := i.1.1
  have f := i.2.2.1.2.1
  have py := fun {p} (h : p < s 0) Q => c38y (Q := Q) hg R i h
  have pn := fun {v} (h : ¬ ∃ p, p < s 0 ∧ v = nI p) Q => c38n (Q := Q) hg R i h
  rcases o with ⟨p, e, hp, h0, ⟨h1, h2, h3⟩ | ⟨h1, h2, h3⟩⟩ | ⟨h, e4, e5⟩
  · rw [h2, h3]
    subst e
    refine ⟨M, fun Q => ?_, R, FG_r⟩
    have z : ¬ nI p = 0 := nI_ne0 (by omega) (by omega)
    have z2 : nI p = nI (s 7) := by rw [h1]
    simp only [k55_0, k55_1, k55_4, k55_5, k55_6, k55_9, k55_12, k55_14, k55_15, k55_16, k55_17, k55_20, k55_23, k55_25, k55_26, k55_27, k55_30, k55_31, k55_32, k55_33, k55_36, k55_37, k55_40, k55_43, k55_44, ig_t0 hg, ig_t1 hg, ig_t2 hg, ig_t3 hg, ig_t4 hg, ig_t5 hg, ig_t6 hg, ig_t7 hg, ig_t8 hg, ig_t9 hg, ig_t10 hg, ig_t11 hg, ig_t12 hg, ig_l1 hg, ig_l2 hg, ig_l3 hg, ig_l4 hg, ig_l5 hg, ig_l6 hg, ig_l7 hg, ig_l8 hg, ig_l9 hg, ig_l10 hg, ig_l12 hg, ig_r1 hg, ig_r2 hg, ig_r4 hg, ig_r5 hg, ig_r6 hg, ig_r7 hg, ig_r8 hg, ig_r9 hg, ig_r12 hg, ig_r14 hg, ig_r15 hg, ig_rw hg, rf_s, pushR_s, pushR_n, le4_0, le4_1, le4_2, le4_3, le4_4, isLong_n, isLong_i, isLong_r, isLong_f, if_true, if_false, not_true_eq_false, not_false_eq_true, isI_0, isI_9, isAr_0, isAr_1, isAr_2, isAr_9, okR_i, okR_0, okR_1, putI_0, putI_b0, putI_b1, nI_10, nI_00, Nat.reduceLT, Nat.reduceLeDiff, nI_add, upM_s, upI_s, pk_mul, nf_at, py hp, z, rg_food R, ← z2]
  · rw [h2, h3]
    subst e
    have z : ¬ nI p = 0 := nI_ne0 (by omega) (by omega)
    have z2 : ¬ nI p = nI (s 7) := ne_n (by omega) (by omega) (Ne.symm h1)
    have r1 := RG_up R i.2.2.2.2.2 (j := 7) (x := p) (o := g) (i := 10) (by unfold J; omega) rfl rfl
    obtain ⟨W, w1, w2⟩ := rg_best r1
    obtain ⟨N, a1, a2, a3⟩ := c86 (ig_way hg) w1.2.2.2.2.1
    refine ⟨N, fun Q => ?_, RG_best r1 (fun o h1 h2 => a3 o (by omega)) ⟨W0, a2, Or.inl ⟨upN_s, rfl⟩⟩ (fun j hj => upN_n (J_9 hj)) (fun h => absurd upN_s h), FG_t (FG_u (by omega) (by omega)) (fun o h => a3 o (by omega))⟩
    simp only [k55_0, k55_1, k55_4, k55_5, k55_6, k55_9, k55_12, k55_14, k55_15, k55_16, k55_17, k55_20, k55_23, k55_25, k55_26, k55_27, k55_30, k55_31, k55_32, k55_33, k55_36, k55_37, k55_40, k55_43, k55_44, ig_t0 hg, ig_t1 hg, ig_t2 hg, ig_t3 hg, ig_t4 hg, ig_t5 hg, ig_t6 hg, ig_t7 hg, ig_t8 hg, ig_t9 hg, ig_t10 hg, ig_t11 hg, ig_t12 hg, ig_l1 hg, ig_l2 hg, ig_l3 hg, ig_l4 hg, ig_l5 hg, ig_l6 hg, ig_l7 hg, ig_l8 hg, ig_l9 hg, ig_l10 hg, ig_l12 hg, ig_r1 hg, ig_r2 hg, ig_r4 hg, ig_r5 hg, ig_r6 hg, ig_r7 hg, ig_r8 hg, ig_r9 hg, ig_r12 hg, ig_r14 hg, ig_r15 hg, ig_rw hg, rf_s, pushR_s, pushR_n, le4_0, le4_1, le4_2, le4_3, le4_4, isLong_n, isLong_i, isLong_r, isLong_f, if_true, if_false, not_true_eq_false, not_false_eq_true, isI_0, isI_9, isAr_0, isAr_1, isAr_2, isAr_9, okR_i, okR_0, okR_1, putI_0, putI_b0, putI_b1, nI_10, nI_00, Nat.reduceLT, Nat.reduceLeDiff, nI_add, upM_s, upI_s, pk_mul, nf_at, py hp, z, rg_food R, z2, a1]
  · rw [e4, e5]
    refine ⟨M, fun Q => ?_, R, FG_r⟩
    by_cases c : x = 0
    · simp only [k55_0, k55_1, k55_4, k55_5, k55_6, k55_9, k55_12, k55_14, k55_15, k55_16, k55_17, k55_20, k55_23, k55_25, k55_26, k55_27, k55_30, k55_31, k55_32, k55_33, k55_36, k55_37, k55_40, k55_43, k55_44, ig_t0 hg, ig_t1 hg, ig_t2 hg, ig_t3 hg, ig_t4 hg, ig_t5 hg, ig_t6 hg, ig_t7 hg, ig_t8 hg, ig_t9 hg, ig_t10 hg, ig_t11 hg, ig_t12 hg, ig_l1 hg, ig_l2 hg, ig_l3 hg, ig_l4 hg, ig_l5 hg, ig_l6 hg, ig_l7 hg, ig_l8 hg, ig_l9 hg, ig_l10 hg, ig_l12 hg, ig_r1 hg, ig_r2 hg, ig_r4 hg, ig_r5 hg, ig_r6 hg, ig_r7 hg, ig_r8 hg, ig_r9 hg, ig_r12 hg, ig_r14 hg, ig_r15 hg, ig_rw hg, rf_s, pushR_s, pushR_n, le4_0, le4_1, le4_2, le4_3, le4_4, isLong_n, isLong_i, isLong_r, isLong_f, if_true, if_false, not_true_eq_false, not_false_eq_true, isI_0, isI_9, isAr_0, isAr_1, isAr_2, isAr_9, okR_i, okR_0, okR_1, putI_0, putI_b0, putI_b1, nI_10, nI_00, Nat.reduceLT, Nat.reduceLeDiff, nI_add, upM_s, upI_s, pk_mul, nf_at, c]
    · rcases h with h | ⟨⟨p, hp, e⟩, h⟩
      · simp only [k55_0, k55_1, k55_4, k55_5, k55_6, k55_9, k55_12, k55_14, k55_15, k55_16, k55_17, k55_20, k55_23, k55_25, k55_26, k55_27, k55_30, k55_31, k55_32, k55_33, k55_36, k55_37, k55_40, k55_43, k55_44, ig_t0 hg, ig_t1 hg, ig_t2 hg, ig_t3 hg, ig_t4 hg, ig_t5 hg, ig_t6 hg, ig_t7 hg, ig_t8 hg, ig_t9 hg, ig_t10 hg, ig_t11 hg, ig_t12 hg, ig_l1 hg, ig_l2 hg, ig_l3 hg, ig_l4 hg, ig_l5 hg, ig_l6 hg, ig_l7 hg, ig_l8 hg, ig_l9 hg, ig_l10 hg, ig_l12 hg, ig_r1 hg, ig_r2 hg, ig_r4 hg, ig_r5 hg, ig_r6 hg, ig_r7 hg, ig_r8 hg, ig_r9 hg, ig_r12 hg, ig_r14 hg, ig_r15 hg, ig_rw hg, rf_s, pushR_s, pushR_n, le4_0, le4_1, le4_2, le4_3, le4_4, isLong_n, isLong_i, isLong_r, isLong_f, if_true, if_false, not_true_eq_false, not_false_eq_true, isI_0, isI_9, isAr_0, isAr_1, isAr_2, isAr_9, okR_i, okR_0, okR_1, putI_0, putI_b0, putI_b1, nI_10, nI_00, Nat.reduceLT, Nat.reduceLeDiff, nI_add, upM_s, upI_s, pk_mul, nf_at, c, pn h]
      · exact absurd h c
theorem cp_RG {f : Nat → Nat} (R : RG M g s) (h10 : s 10 ≤ 9) : ∀ n, n ≤ 16 → RG (upM M (g + 6) (cp n (fun k => nI (f k)) (M (g + 6)))) g (mapT s n f)
  | 0, _ => by
    rw [cp_0, upM_self rfl, mapT_0]
    exact R
  | n + 1, hn => by
    have ih := cp_RG (f := f) R h10 n (by omega)
    have u := RG_up ih (by rw [mapT_lo (by omega)]; exact h10) (j := 30 + 6 * n + 3) (x := f n) (by unfold J; omega) (lo_p3 (by omega)) (li_p (by omega) (by omega))
    rw [upM_s, upM_up, cp_up (f := fun k => nI (f k)), mapT_up] at u
    exact u
theorem c56 (hg : IsG σ g) (R : RG M g s) (i : Inv s) (o : oForget s r s') : ∃ M', (∀ Q, wp 56 0 [some (.ref g), none, none] [] σ M Q = Q (some (.int r)) σ M') ∧ RG M' g s' ∧ FG M M' g := by
  have g1 := i.1.2.1
  have h10 := i.2.2.2.2.2
  have m := fun Q => c50 (Q := Q) hg R g1
  have rB := cp_RG (f := fun _ => s 17) R h10
  obtain ⟨inv, hr, e1⟩ := oForget_inv i o
  obtain ⟨o1, o2⟩ := o
  obtain ⟨W, w1, w2⟩ := rg_best (rB (s 1) g1)
  obtain ⟨N, a1, a2, a3⟩ := c86 (ig_way hg) w1.2.2.2.2.1
  have e9 : s' 9 = 0 := by rw [o2, mapT_lo (by omega), upN_s]
  have rN : RG N g s' := RG_best (rB (s 1) g1) (fun o h1 h2 => a3 o (by omega)) ⟨W0, a2, Or.inl ⟨e9, rfl⟩⟩ (fun j hj => by
    rw [o2]
    unfold mapT
    split
    · rfl
    · exact upN_n (J_9 hj)) (fun h => absurd e9 h)
  have m2 := fun Q => c50 (Q := Q) hg rN inv.1.2.1
  rw [e1] at m2
  refine ⟨N, fun Q => ?_, rN, FG_t (FG_u (by omega) (by omega)) (fun o h => a3 o (by omega))⟩
  simp only [k56_0, k56_1, k56_4, k56_5, k56_6, ig_t0 hg, ig_t1 hg, ig_t2 hg, ig_t3 hg, ig_t4 hg, ig_t5 hg, ig_t6 hg, ig_t7 hg, ig_t8 hg, ig_t9 hg, ig_t10 hg, ig_t11 hg, ig_t12 hg, ig_l1 hg, ig_l2 hg, ig_l3 hg, ig_l4 hg, ig_l5 hg, ig_l6 hg, ig_l7 hg, ig_l8 hg, ig_l9 hg, ig_l10 hg, ig_l12 hg, ig_r1 hg, ig_r2 hg, ig_r4 hg, ig_r5 hg, ig_r6 hg, ig_r7 hg, ig_r8 hg, ig_r9 hg, ig_r12 hg, ig_r14 hg, ig_r15 hg, ig_rw hg, rf_s, pushR_s, pushR_n, le4_0, le4_1, le4_2, le4_3, le4_4, isLong_n, isLong_i, isLong_r, isLong_f, if_true, if_false, not_true_eq_false, not_false_eq_true, isI_0, isI_9, isAr_0, isAr_1, isAr_2, isAr_9, okR_i, okR_0, okR_1, putI_0, putI_b0, putI_b1, nI_10, nI_00, Nat.reduceLT, Nat.reduceLeDiff, nI_add, upM_s, upI_s, pk_mul, nf_at, m]
  rw [show wp 56 7 [some (.ref g), some (.int (nI (sumTo (trl s) (s 1)))), some (.int (nI 0))] [] σ M Q = wp 56 7 [some (.ref g), some (.int (nI (sumTo (trl s) (s 1)))), some (.int (nI 0))] [] σ (upM M (g + 6) (cp 0 (fun _ => nI (s 17)) (M (g + 6)))) Q from by rw [cp_0, upM_self rfl]]
  refine (wp_up (n := s 1) (fun k => [some (.ref g), some (.int (nI (sumTo (trl s) (s 1)))), some (.int (nI k))]) (fun k => upM M (g + 6) (cp k (fun _ => nI (s 17)) (M (g + 6)))) Q (fun k hk => ?_)).trans ?_
  · have e : nI k < nI (s 1) := nI_lt hk (by omega)
    have h16 : k < 16 := by omega
    have e2 : nI k < nI 16 := nI_lt h16 (by omega)
    have rk := rB k (by omega)
    have n1 := rg_nc rk
    have m3 := fun Q => c43 (Q := Q) hg rk (k := 4) (by omega)
    rw [mapT_lo (by omega)] at n1 m3
    have up := cp_up (f := fun _ => nI (s 17)) (g := M (g + 6)) (n := k)
    rw [k56_7]
    simp only [k56_8, k56_9, k56_12, k56_15, k56_16, k56_17, k56_20, k56_21, k56_24, k56_25, k56_28, k56_29, k56_30, k56_31, k56_34, k56_35, k56_38, ig_t0 hg, ig_t1 hg, ig_t2 hg, ig_t3 hg, ig_t4 hg, ig_t5 hg, ig_t6 hg, ig_t7 hg, ig_t8 hg, ig_t9 hg, ig_t10 hg, ig_t11 hg, ig_t12 hg, ig_l1 hg, ig_l2 hg, ig_l3 hg, ig_l4 hg, ig_l5 hg, ig_l6 hg, ig_l7 hg, ig_l8 hg, ig_l9 hg, ig_l10 hg, ig_l12 hg, ig_r1 hg, ig_r2 hg, ig_r4 hg, ig_r5 hg, ig_r6 hg, ig_r7 hg, ig_r8 hg, ig_r9 hg, ig_r12 hg, ig_r14 hg, ig_r15 hg, ig_rw hg, rf_s, pushR_s, pushR_n, le4_0, le4_1, le4_2, le4_3, le4_4, isLong_n, isLong_i, isLong_r, isLong_f, if_true, if_false, not_true_eq_false, not_false_eq_true, isI_0, isI_9, isAr_0, isAr_1, isAr_2, isAr_9, okR_i, okR_0, okR_1, putI_0, putI_b0, putI_b1, nI_10, nI_00, Nat.reduceLT, Nat.reduceLeDiff, nI_add, upM_s, upI_s, pk_mul, nf_at, n1, e, e2, h16, m3, upM_up, up]
  · have e : ¬ nI (s 1) < nI (s 1) := nI_nlt (Nat.le_refl _) (by omega)
    have n1 := rg_nc (rB (s 1) g1)
    rw [mapT_lo (by omega)] at n1
    rw [k56_7]
    simp only [k56_8, k56_9, k56_12, k56_15, k56_16, k56_17, k56_20, k56_21, k56_24, k56_25, k56_28, k56_29, k56_30, k56_31, k56_34, k56_35, k56_38, k56_41, k56_42, k56_45, k56_48, k56_49, k56_50, k56_53, k56_54, ig_t0 hg, ig_t1 hg, ig_t2 hg, ig_t3 hg, ig_t4 hg, ig_t5 hg, ig_t6 hg, ig_t7 hg, ig_t8 hg, ig_t9 hg, ig_t10 hg, ig_t11 hg, ig_t12 hg, ig_l1 hg, ig_l2 hg, ig_l3 hg, ig_l4 hg, ig_l5 hg, ig_l6 hg, ig_l7 hg, ig_l8 hg, ig_l9 hg, ig_l10 hg, ig_l12 hg, ig_r1 hg, ig_r2 hg, ig_r4 hg, ig_r5 hg, ig_r6 hg, ig_r7 hg, ig_r8 hg, ig_r9 hg, ig_r12 hg, ig_r14 hg, ig_r15 hg, ig_rw hg, rf_s, pushR_s, pushR_n, le4_0, le4_1, le4_2, le4_3, le4_4, isLong_n, isLong_i, isLong_r, isLong_f, if_true, if_false, not_true_eq_false, not_false_eq_true, isI_0, isI_9, isAr_0, isAr_1, isAr_2, isAr_9, okR_i, okR_0, okR_1, putI_0, putI_b0, putI_b1, nI_10, nI_00, Nat.reduceLT, Nat.reduceLeDiff, nI_add, upM_s, upI_s, pk_mul, nf_at, n1, e, a1, m2, o1]
/-- the class' constants -/
def IsC (σ : Sg) (M : Mem) : Prop := sT σ 1001 = 9 ∧ sT σ 1002 = 9 ∧ sL σ 1001 = 7 ∧ sL σ 1002 = 7 ∧ (∀ k, k < 7 → M 1001 k = nI (sMn k)) ∧ ∀ k, k < 7 → M 1002 k = nI (sMx k)
theorem c57 (hg : IsG σ g) (hC : IsC σ M) (R : RG M g s) (i : Inv s) {x y : Int32} (o : oSet s x y r s') : ∃ M', (∀ Q, wp 57 0 [some (.ref g), some (.int x), some (.int y), none] [] σ M Q = Q (some (.int r)) σ M') ∧ RG M' g s' ∧ FG M M' g := by
  obtain ⟨t1, t2, l1, l2, q1, q2⟩ := hC
  rcases o with ⟨k, v, e, hk, e2, v1, v2, h2, h3⟩ | ⟨h, e4, e5⟩
  · rw [h2, h3]
    have hx := sMx_lt k
    have il := inI_c (v := y) (a := sMn k) (b := sMx k) (by omega) (by omega) v1 v2 e2
    have il2 := inI_w (n := 6) (w := k) (by omega) (by omega)
    subst e e2
    have e3 := rg_set R k hk
    have a1 := q1 k hk
    have a2 := q2 k hk
    refine ⟨_, fun Q => ?_, RG_up R i.2.2.2.2.2 (j := 13 + k) (x := v) (by unfold J; omega) (lo_s hk) (li_s hk), FG_u (by omega) (by omega)⟩
    simp only [k57_0, k57_1, k57_2, k57_4, k57_7, k57_10, k57_11, k57_14, k57_15, k57_16, k57_19, k57_20, k57_21, k57_24, k57_27, k57_29, k57_30, k57_31, k57_34, k57_35, k57_36, k57_37, k57_38, k57_41, k57_42, k57_43, k57_44, k57_45, ig_t0 hg, ig_t1 hg, ig_t2 hg, ig_t3 hg, ig_t4 hg, ig_t5 hg, ig_t6 hg, ig_t7 hg, ig_t8 hg, ig_t9 hg, ig_t10 hg, ig_t11 hg, ig_t12 hg, ig_l1 hg, ig_l2 hg, ig_l3 hg, ig_l4 hg, ig_l5 hg, ig_l6 hg, ig_l7 hg, ig_l8 hg, ig_l9 hg, ig_l10 hg, ig_l12 hg, ig_r1 hg, ig_r2 hg, ig_r4 hg, ig_r5 hg, ig_r6 hg, ig_r7 hg, ig_r8 hg, ig_r9 hg, ig_r12 hg, ig_r14 hg, ig_r15 hg, ig_rw hg, rf_s, pushR_s, pushR_n, le4_0, le4_1, le4_2, le4_3, le4_4, isLong_n, isLong_i, isLong_r, isLong_f, if_true, if_false, not_true_eq_false, not_false_eq_true, isI_0, isI_9, isAr_0, isAr_1, isAr_2, isAr_9, okR_i, okR_0, okR_1, putI_0, putI_b0, putI_b1, nI_10, nI_00, Nat.reduceLT, Nat.reduceLeDiff, nI_add, upM_s, upI_s, pk_mul, nf_at, c24, il2, t1, t2, l1, l2, hk, a1, a2, il, e3]
  · rw [e4, e5]
    refine ⟨M, fun Q => ?_, R, FG_r⟩
    rcases h with h | ⟨k, hk, e, h⟩
    · have il := inI_q (n := 6) (x := x) (by omega) (fun ⟨w, h1, h2⟩ => h ⟨w, by omega, h2⟩)
      simp only [k57_0, k57_1, k57_2, k57_4, k57_7, k57_10, k57_11, k57_14, k57_15, k57_16, k57_19, k57_20, k57_21, k57_24, k57_27, k57_29, k57_30, k57_31, k57_34, k57_35, k57_36, k57_37, k57_38, k57_41, k57_42, k57_43, k57_44, k57_45, ig_t0 hg, ig_t1 hg, ig_t2 hg, ig_t3 hg, ig_t4 hg, ig_t5 hg, ig_t6 hg, ig_t7 hg, ig_t8 hg, ig_t9 hg, ig_t10 hg, ig_t11 hg, ig_t12 hg, ig_l1 hg, ig_l2 hg, ig_l3 hg, ig_l4 hg, ig_l5 hg, ig_l6 hg, ig_l7 hg, ig_l8 hg, ig_l9 hg, ig_l10 hg, ig_l12 hg, ig_r1 hg, ig_r2 hg, ig_r4 hg, ig_r5 hg, ig_r6 hg, ig_r7 hg, ig_r8 hg, ig_r9 hg, ig_r12 hg, ig_r14 hg, ig_r15 hg, ig_rw hg, rf_s, pushR_s, pushR_n, le4_0, le4_1, le4_2, le4_3, le4_4, isLong_n, isLong_i, isLong_r, isLong_f, if_true, if_false, not_true_eq_false, not_false_eq_true, isI_0, isI_9, isAr_0, isAr_1, isAr_2, isAr_9, okR_i, okR_0, okR_1, putI_0, putI_b0, putI_b1, nI_10, nI_00, Nat.reduceLT, Nat.reduceLeDiff, nI_add, upM_s, upI_s, pk_mul, nf_at, c24, il]
    · have hx := sMx_lt k
      have hn := sMn_lt k
      have il := inI_d (v := y) (a := sMn k) (b := sMx k) (by omega) (by omega) h
      have il2 := inI_w (n := 6) (w := k) (by omega) (by omega)
      subst e
      have a1 := q1 k hk
      have a2 := q2 k hk
      simp only [k57_0, k57_1, k57_2, k57_4, k57_7, k57_10, k57_11, k57_14, k57_15, k57_16, k57_19, k57_20, k57_21, k57_24, k57_27, k57_29, k57_30, k57_31, k57_34, k57_35, k57_36, k57_37, k57_38, k57_41, k57_42, k57_43, k57_44, k57_45, ig_t0 hg, ig_t1 hg, ig_t2 hg, ig_t3 hg, ig_t4 hg, ig_t5 hg, ig_t6 hg, ig_t7 hg, ig_t8 hg, ig_t9 hg, ig_t10 hg, ig_t11 hg, ig_t12 hg, ig_l1 hg, ig_l2 hg, ig_l3 hg, ig_l4 hg, ig_l5 hg, ig_l6 hg, ig_l7 hg, ig_l8 hg, ig_l9 hg, ig_l10 hg, ig_l12 hg, ig_r1 hg, ig_r2 hg, ig_r4 hg, ig_r5 hg, ig_r6 hg, ig_r7 hg, ig_r8 hg, ig_r9 hg, ig_r12 hg, ig_r14 hg, ig_r15 hg, ig_rw hg, rf_s, pushR_s, pushR_n, le4_0, le4_1, le4_2, le4_3, le4_4, isLong_n, isLong_i, isLong_r, isLong_f, if_true, if_false, not_true_eq_false, not_false_eq_true, isI_0, isI_9, isAr_0, isAr_1, isAr_2, isAr_9, okR_i, okR_0, okR_1, putI_0, putI_b0, putI_b1, nI_10, nI_00, Nat.reduceLT, Nat.reduceLeDiff, nI_add, upM_s, upI_s, pk_mul, nf_at, c24, il2, t1, t2, l1, l2, hk, a1, a2, il]
theorem c58 (hg : IsG σ g) (R : RG M g s) (h10 : s 10 ≤ 9) (hx : s 8 < 2147483647) {S : Nat} (h1 : 1 ≤ S) (h2 : S < 2 ^ 31) : ∃ M', (∀ Q, wp 58 0 [some (.ref g), some (.int (nI S))] [] σ M Q = Q (some (.int (nI (nx (s 8) % S)))) σ M') ∧ RG M' g (upN s 8 (nx (s 8))) ∧ FG M M' g := by
  have z : ¬ nI S < nI 1 := nI_nlt h1 h2
  have z0 : ¬ nI S = 0 := nI_ne0 (by omega) h2
  have b2 : nx (s 8) < 2147483647 := nx_lt
  have l1 : (nI (s 8)).toInt64 = lN (s 8) := nI_l (by omega)
  have l2 : (16807 : Int64) = lN 16807 := rfl
  have l3 : (2147483647 : Int64) = lN 2147483647 := rfl
  have l4 : ¬ lN 2147483647 = 0 := by decide
  have l5 : _ = lN (nx (s 8)) := pk_lRem (a := s 8 * 16807) (b := 2147483647) (by omega) (by omega) (by omega)
  have l6 := pk_rem (a := nx (s 8)) (d := S) (by omega) (by omega) h2
  refine ⟨_, fun Q => ?_, RG_up R h10 (j := 8) (x := nx (s 8)) (o := g) (i := 11) (by unfold J; omega) rfl rfl, FG_u (by omega) (by omega)⟩
  simp only [k58_0, k58_1, k58_2, k58_5, k58_6, k58_7, k58_8, k58_9, k58_12, k58_13, k58_16, k58_17, k58_20, k58_21, k58_22, k58_25, k58_26, k58_29, k58_30, k58_31, ig_t0 hg, ig_t1 hg, ig_t2 hg, ig_t3 hg, ig_t4 hg, ig_t5 hg, ig_t6 hg, ig_t7 hg, ig_t8 hg, ig_t9 hg, ig_t10 hg, ig_t11 hg, ig_t12 hg, ig_l1 hg, ig_l2 hg, ig_l3 hg, ig_l4 hg, ig_l5 hg, ig_l6 hg, ig_l7 hg, ig_l8 hg, ig_l9 hg, ig_l10 hg, ig_l12 hg, ig_r1 hg, ig_r2 hg, ig_r4 hg, ig_r5 hg, ig_r6 hg, ig_r7 hg, ig_r8 hg, ig_r9 hg, ig_r12 hg, ig_r14 hg, ig_r15 hg, ig_rw hg, rf_s, pushR_s, pushR_n, le4_0, le4_1, le4_2, le4_3, le4_4, isLong_n, isLong_i, isLong_r, isLong_f, if_true, if_false, not_true_eq_false, not_false_eq_true, isI_0, isI_9, isAr_0, isAr_1, isAr_2, isAr_9, okR_i, okR_0, okR_1, putI_0, putI_b0, putI_b1, nI_10, nI_00, Nat.reduceLT, Nat.reduceLeDiff, nI_add, upM_s, upI_s, pk_mul, nf_at, z, z0, rg_x R, l1, l2, l3, l4, lN_mul, l5, lN_i, l6]
end GND
