section COL
variable {σ : Sg} {g : Nat} {s : Nat → Nat}
theorem c33L (ho : IsO σ) (hg : IsG σ g) (dg : g + 12 < 94) (i0 : Inv s) : ∀ (n x : Nat) (W : (Nat × Nat × Nat × Nat × (Nat → Nat))) (M : Mem) (l3 l4 l5 : Option Value), W.2.1 + n = 10 → IW s W → RW M 95 W → RG M g (upN s 8 x) → x < 2147483647 → ∃ M', (∀ Q, wp 33 9 [some (.ref 94), some (.ref g), some (.int (nI W.2.1)), l3, l4, l5] [] σ M Q = Q (some (.int (nI (walk s n x W).2.2))) σ M') ∧ RW M' 95 (walk s n x W).2.1 ∧ RG M' g (upN s 8 (walk s n x W).1) ∧ FC M M' g ∧ M' 97 = M 97
  | 0, x, W, M, l3, l4, l5, hn, iw, _, _, _ => by have := iw.1; omega
  | n + 1, x, W, M, l3, l4, l5, hn, iw, rv, R, hx => by
    have i := Inv_x i0 hx
    have es : Eqg s (upN s 8 x) := eqg_8
    have G := i0.1
    have g0 := G.1
    have g1 := G.2.1
    have hh : hr W < 10 := Nat.lt_of_lt_of_le (iw.2.2.1 W.2.1 (Nat.le_refl _)) g0
    have hlong : W.1 ≤ 180 := by have := iw.2.2.2.2.2.2.2.2.1; have := iw.1; omega
    have i2 := i0.2.1
    unfold sOk at i2
    have iwx : IW (upN s 8 x) W := eqg_IW es G iw
    have e7 : upN s 8 x 7 = s 7 := rfl
    have m89 := fun Q => c89 (Q := Q) (io_w ho) rv iw.1
    have stl : nI W.2.1 < nI 10 := nI_lt (by have := iw.1; omega) (by omega)
    have f7 := i0.2.2.1.2.1
    unfold walk
    by_cases c1 : hr W = s 7
    · rw [if_pos c1]
      refine ⟨M, fun Q => ?_, rv, R, FC_r, rfl⟩
      have z : nI (hr W) = nI (s 7) := by rw [c1]
      rw [k33_9]
      simp only [k33_10, k33_12, k33_15, k33_16, k33_19, k33_22, k33_23, k33_26, k33_112, k33_113, io_t94 ho, io_r0 ho, io_r1 ho, io_r2 ho, io_t97 ho, io_l97 ho, io_t98 ho, io_l98 ho, iw_t0 (io_w ho), iw_t1 (io_w ho), iw_l1 (io_w ho), iw_r0 (io_w ho), ig_t0 hg, ig_t1 hg, ig_t2 hg, ig_t3 hg, ig_t4 hg, ig_t5 hg, ig_t6 hg, ig_t7 hg, ig_t8 hg, ig_t9 hg, ig_t10 hg, ig_t11 hg, ig_t12 hg, ig_l1 hg, ig_l2 hg, ig_l3 hg, ig_l4 hg, ig_l5 hg, ig_l6 hg, ig_l7 hg, ig_l8 hg, ig_l9 hg, ig_l10 hg, ig_l12 hg, ig_r1 hg, ig_r2 hg, ig_r4 hg, ig_r5 hg, ig_r6 hg, ig_r7 hg, ig_r8 hg, ig_r9 hg, ig_r12 hg, ig_r14 hg, ig_r15 hg, ig_rw hg, rf_s, pushR_s, pushR_n, le4_0, le4_1, le4_2, le4_3, le4_4, isLong_n, isLong_i, isLong_r, isLong_f, if_true, if_false, not_true_eq_false, not_false_eq_true, isI_0, isI_9, isAr_0, isAr_1, isAr_2, isAr_9, okR_i, okR_0, okR_1, putI_0, putI_b0, putI_b1, nI_10, nI_00, Nat.reduceLT, Nat.reduceLeDiff, nI_add, upM_s, upI_s, pk_mul, nf_at, stl, m89, rg_food R, e7, z]
    · rw [if_neg c1]
      have z7 : ¬ nI (hr W) = nI (s 7) := ne_n (by omega) (by omega) c1
      have m34 := fun Q => c34 (Q := Q) ho hg dg R i rv iwx
      have esm : sm (upN s 8 x) (hr W) W.2.2.2.1 = sm s (hr W) W.2.2.2.1 := eqg_sm es G
      rw [esm] at m34
      generalize hM1 : upM M 98 (cp (upN s 8 x 1) (fun k => nI (aw (upN s 8 x) (hr W) W.2.2.2.1 k)) (M 98)) = M1 at m34
      have fc1 : FC M M1 g := by rw [← hM1]; exact FC_u (by omega) (by omega)
      have f97 : M1 97 = M 97 := by rw [← hM1]; exact upM_n (by decide)
      have r1 : RG M1 g (upN s 8 x) := RG_o R i.2.2.2.2.2 (fun o h1 h2 => by rw [← hM1]; exact upM_n (by omega))
      have rv1 : RW M1 95 W := RW_fr rv (by rw [← hM1]; exact upM_n (by decide)) (by rw [← hM1]; exact upM_n (by decide))
      by_cases c2 : sm s (hr W) W.2.2.2.1 = 0
      · rw [if_pos c2]
        refine ⟨M1, fun Q => ?_, rv1, r1, fc1, f97⟩
        rw [k33_9]
        simp only [k33_10, k33_12, k33_15, k33_16, k33_19, k33_22, k33_23, k33_26, k33_29, k33_30, k33_31, k33_34, k33_35, k33_36, k33_39, k33_40, io_t94 ho, io_r0 ho, io_r1 ho, io_r2 ho, io_t97 ho, io_l97 ho, io_t98 ho, io_l98 ho, iw_t0 (io_w ho), iw_t1 (io_w ho), iw_l1 (io_w ho), iw_r0 (io_w ho), ig_t0 hg, ig_t1 hg, ig_t2 hg, ig_t3 hg, ig_t4 hg, ig_t5 hg, ig_t6 hg, ig_t7 hg, ig_t8 hg, ig_t9 hg, ig_t10 hg, ig_t11 hg, ig_t12 hg, ig_l1 hg, ig_l2 hg, ig_l3 hg, ig_l4 hg, ig_l5 hg, ig_l6 hg, ig_l7 hg, ig_l8 hg, ig_l9 hg, ig_l10 hg, ig_l12 hg, ig_r1 hg, ig_r2 hg, ig_r4 hg, ig_r5 hg, ig_r6 hg, ig_r7 hg, ig_r8 hg, ig_r9 hg, ig_r12 hg, ig_r14 hg, ig_r15 hg, ig_rw hg, rf_s, pushR_s, pushR_n, le4_0, le4_1, le4_2, le4_3, le4_4, isLong_n, isLong_i, isLong_r, isLong_f, if_true, if_false, not_true_eq_false, not_false_eq_true, isI_0, isI_9, isAr_0, isAr_1, isAr_2, isAr_9, okR_i, okR_0, okR_1, putI_0, putI_b0, putI_b1, nI_10, nI_00, Nat.reduceLT, Nat.reduceLeDiff, nI_add, upM_s, upI_s, pk_mul, nf_at, stl, m89, rg_food R, e7, z7, m34, c2]
      · rw [if_neg c2]
        have bsm := sm_le (h := hr W) (b := W.2.2.2.1) G (Nat.le_refl (s 1))
        have bsm' : sm s (hr W) W.2.2.2.1 ≤ 3199696 := bsm
        have z0 : ¬ nI (sm s (hr W) W.2.2.2.1) = 0 := nI_ne0 (by omega) (by omega)
        obtain ⟨M2, d1, d2, d3⟩ := c58 hg r1 i.2.2.2.2.2 (by rw [upN_s]; exact hx) (S := sm s (hr W) W.2.2.2.1) (by omega) (by omega)
        rw [upN_s, upN_upN] at d2
        rw [upN_s] at d1
        have i' := Inv_x i0 (x := nx x) nx_lt
        have rv2 : RW M2 95 W := RW_fr rv1 (d3 95 (by omega)) (d3 96 (by omega))
        have w98 : ∀ k, k < upN s 8 (nx x) 1 → M2 98 k = nI (aw s (hr W) W.2.2.2.1 k) := fun k hk => by
          have hk' : k < s 1 := hk
          rw [d3 98 (by omega), ← hM1, upM_s, cp_lt (show k < upN s 8 x 1 from hk'), eqg_aw es (by omega)]
        have m35 := fun Q => c35 (Q := Q) ho hg d2 (show upN s 8 (nx x) 1 ≤ 16 from g1) w98 (d := nx x % sm s (hr W) W.2.2.2.1) (Nat.mod_lt _ (by omega)) (show sm s (hr W) W.2.2.2.1 < 2 ^ 30 by omega)
        have ep : pick (aw s (hr W) W.2.2.2.1) (nx x % sm s (hr W) W.2.2.2.1) (upN s 8 (nx x) 1) = pkx s x W := rfl
        rw [ep] at m35
        obtain ⟨p1, p2⟩ := pkx_ok (x := x) c2
        generalize pkx s x W = k at *
        have k1 : k < upN s 8 (nx x) 1 := p1
        have m44 := fun Q => c44 (Q := Q) hg d2 i' k1
        have m43 := fun Q => c43 (Q := Q) hg d2 (k := 6) (by omega)
        have e2 : upN s 8 (nx x) (30 + 6 * k + 2) = s (30 + 6 * k + 2) := upN_n (by omega)
        have e19 : upN s 8 (nx x) (13 + 6) = s 19 := upN_n (by omega)
        rw [e2] at m44
        rw [e19] at m43
        have q := G.2.2 k p1
        unfold pOk at q
        by_cases c3 : s 19 < W.1 + s (30 + 6 * k + 2)
        · rw [if_pos c3]
          have z3 : nI (s 19) < nI (W.1 + s (30 + 6 * k + 2)) := nI_lt c3 (by omega)
          refine ⟨M2, fun Q => ?_, rv2, d2, FC_t fc1 (FC_g d3), by rw [d3 97 (by omega), f97]⟩
          rw [k33_9]
          simp only [k33_10, k33_12, k33_15, k33_16, k33_19, k33_22, k33_23, k33_26, k33_29, k33_30, k33_31, k33_34, k33_35, k33_36, k33_39, k33_40, k33_41, k33_42, k33_43, k33_44, k33_45, k33_48, k33_51, k33_53, k33_54, k33_56, k33_59, k33_61, k33_62, k33_65, k33_68, k33_70, k33_71, k33_72, k33_74, k33_77, k33_80, k33_81, io_t94 ho, io_r0 ho, io_r1 ho, io_r2 ho, io_t97 ho, io_l97 ho, io_t98 ho, io_l98 ho, iw_t0 (io_w ho), iw_t1 (io_w ho), iw_l1 (io_w ho), iw_r0 (io_w ho), ig_t0 hg, ig_t1 hg, ig_t2 hg, ig_t3 hg, ig_t4 hg, ig_t5 hg, ig_t6 hg, ig_t7 hg, ig_t8 hg, ig_t9 hg, ig_t10 hg, ig_t11 hg, ig_t12 hg, ig_l1 hg, ig_l2 hg, ig_l3 hg, ig_l4 hg, ig_l5 hg, ig_l6 hg, ig_l7 hg, ig_l8 hg, ig_l9 hg, ig_l10 hg, ig_l12 hg, ig_r1 hg, ig_r2 hg, ig_r4 hg, ig_r5 hg, ig_r6 hg, ig_r7 hg, ig_r8 hg, ig_r9 hg, ig_r12 hg, ig_r14 hg, ig_r15 hg, ig_rw hg, rf_s, pushR_s, pushR_n, le4_0, le4_1, le4_2, le4_3, le4_4, isLong_n, isLong_i, isLong_r, isLong_f, if_true, if_false, not_true_eq_false, not_false_eq_true, isI_0, isI_9, isAr_0, isAr_1, isAr_2, isAr_9, okR_i, okR_0, okR_1, putI_0, putI_b0, putI_b1, nI_10, nI_00, Nat.reduceLT, Nat.reduceLeDiff, nI_add, upM_s, upI_s, pk_mul, nf_at, stl, m89, rg_food R, e7, z7, m34, z0, d1, m35, m44, m43, rv2.2.1, z3]
        · rw [if_neg c3]
          have z3 : ¬ nI (s 19) < nI (W.1 + s (30 + 6 * k + 2)) := nI_nlt (by omega) (by omega)
          obtain ⟨w9, ia⟩ := IW_adv G iw p1 p2
          obtain ⟨a1, a2, a3, a4⟩ := cg_1 G p1 p2
          have m89' := fun Q => c89 (Q := Q) (io_w ho) rv2 iw.1
          have m46 := fun Q => c46 (Q := Q) hg d2 i' k1 hh
          have eac : acr (upN s 8 (nx x)) k (hr W) = acr s k (hr W) := eqg_acr eqg_8 (by omega)
          rw [eac, eI_lt (by omega)] at m46
          obtain ⟨M3, b1, b2, b3⟩ := c87 (io_w ho) rv2 w9 (k := k) (t := acr s k (hr W)) (l := s (30 + 6 * k + 2)) (by omega) (by omega)
          have b2' : RW M3 95 (adv s W k) := b2
          have r3 : RG M3 g (upN s 8 (nx x)) := RG_o d2 i'.2.2.2.2.2 (fun o h1 h2 => b3 o (by omega) (by omega))
          obtain ⟨M', q1, q2, q3, q4, q5⟩ := c33L ho hg dg i0 n (nx x) (adv s W k) M3 (some (.int (nI (sm s (hr W) W.2.2.2.1)))) (some (.int (nI k))) (some (.int (nI (s (30 + 6 * k + 2))))) (by show W.2.1 + 1 + n = 10; omega) ia b2' r3 nx_lt
          refine ⟨M', fun Q => ?_, q2, q3, FC_t fc1 (FC_t (FC_g d3) (FC_t (fun o h1 h2 => b3 o (by omega) (by omega)) q4)), by rw [q5, b3 97 (by decide) (by decide), d3 97 (by omega), f97]⟩
          refine Eq.trans ?_ (q1 Q)
          have est : nI (W.2.1 + 1) = nI (adv s W k).2.1 := rfl
          rw [k33_9]
          simp only [k33_10, k33_12, k33_15, k33_16, k33_19, k33_22, k33_23, k33_26, k33_29, k33_30, k33_31, k33_34, k33_35, k33_36, k33_39, k33_40, k33_41, k33_42, k33_43, k33_44, k33_45, k33_48, k33_51, k33_53, k33_54, k33_56, k33_59, k33_61, k33_62, k33_65, k33_68, k33_70, k33_71, k33_72, k33_74, k33_77, k33_80, k33_81, k33_82, k33_83, k33_86, k33_88, k33_89, k33_91, k33_92, k33_95, k33_98, k33_101, k33_103, k33_106, k33_109, io_t94 ho, io_r0 ho, io_r1 ho, io_r2 ho, io_t97 ho, io_l97 ho, io_t98 ho, io_l98 ho, iw_t0 (io_w ho), iw_t1 (io_w ho), iw_l1 (io_w ho), iw_r0 (io_w ho), ig_t0 hg, ig_t1 hg, ig_t2 hg, ig_t3 hg, ig_t4 hg, ig_t5 hg, ig_t6 hg, ig_t7 hg, ig_t8 hg, ig_t9 hg, ig_t10 hg, ig_t11 hg, ig_t12 hg, ig_l1 hg, ig_l2 hg, ig_l3 hg, ig_l4 hg, ig_l5 hg, ig_l6 hg, ig_l7 hg, ig_l8 hg, ig_l9 hg, ig_l10 hg, ig_l12 hg, ig_r1 hg, ig_r2 hg, ig_r4 hg, ig_r5 hg, ig_r6 hg, ig_r7 hg, ig_r8 hg, ig_r9 hg, ig_r12 hg, ig_r14 hg, ig_r15 hg, ig_rw hg, rf_s, pushR_s, pushR_n, le4_0, le4_1, le4_2, le4_3, le4_4, isLong_n, isLong_i, isLong_r, isLong_f, if_true, if_false, not_true_eq_false, not_false_eq_true, isI_0, isI_9, isAr_0, isAr_1, isAr_2, isAr_9, okR_i, okR_0, okR_1, putI_0, putI_b0, putI_b1, nI_10, nI_00, Nat.reduceLT, Nat.reduceLeDiff, nI_add, upM_s, upI_s, pk_mul, nf_at, stl, m89, rg_food R, e7, z7, m34, z0, d1, m35, m44, m43, rv2.2.1, z3, m89', m46, b1]
          rfl
theorem c33 {M : Mem} (ho : IsO σ) (hg : IsG σ g) (dg : g + 12 < 94) (i : Inv s) (h2 : 0 < s 0) {V : (Nat × Nat × Nat × Nat × (Nat → Nat))} (rv : RW M 95 V) (R : RG M g s) : ∃ M', (∀ Q, wp 33 0 [some (.ref 94), some (.ref g), none, none, none, none] [] σ M Q = Q (some (.int (nI (wlk s).2.2))) σ M') ∧ RW M' 95 (wlk s).2.1 ∧ RG M' g (upN s 8 (wlk s).1) ∧ FC M M' g ∧ M' 97 = M 97 := by
  obtain ⟨N, a1, a2, a3⟩ := c86 (io_w ho) rv.2.2.2.2.1
  have rN : RG N g (upN s 8 (s 8)) := by
    rw [upN_self rfl]
    exact RG_o R i.2.2.2.2.2 (fun o h1 h2 => a3 o (by omega))
  obtain ⟨M', q1, q2, q3, q4, q5⟩ := c33L ho hg dg i 10 (s 8) W0 N none none none rfl (IW_0 h2) a2 rN i.2.2.2.1
  refine ⟨M', fun Q => ?_, q2, q3, FC_t (fun o h1 h2 => a3 o (by omega)) q4, by rw [q5, a3 97 (by decide)]⟩
  refine Eq.trans ?_ (q1 Q)
  simp only [k33_0, k33_1, k33_4, k33_7, k33_8, io_t94 ho, io_r0 ho, io_r1 ho, io_r2 ho, io_t97 ho, io_l97 ho, io_t98 ho, io_l98 ho, iw_t0 (io_w ho), iw_t1 (io_w ho), iw_l1 (io_w ho), iw_r0 (io_w ho), rf_s, pushR_s, pushR_n, le4_0, le4_1, le4_2, le4_3, le4_4, isLong_n, isLong_i, isLong_r, isLong_f, if_true, if_false, not_true_eq_false, not_false_eq_true, isI_0, isI_9, isAr_0, isAr_1, isAr_2, isAr_9, okR_i, okR_0, okR_1, putI_0, putI_b0, putI_b1, nI_10, nI_00, Nat.reduceLT, Nat.reduceLeDiff, nI_add, upM_s, upI_s, pk_mul, nf_at, a1]
  rfl
end COL
