theorem pth_mk {s : Nat → Nat} (g : Gph s) {x : Nat} {W : (Nat × Nat × Nat × Nat × (Nat → Nat))} : pth (mkS s x W.2.2.1 W.2.2.2.1) (hr W) W.2.2.2.1 = pkx s x W := eqg_pkx (s := s) (s' := mkS s x W.2.2.1 W.2.2.2.1) (x := x) (W := W) eqg_mk g
theorem RV_fr {M N : Mem} {W : (Nat × Nat × Nat × Nat × (Nat → Nat))} (h : RV M W) (h1 : N 106 = M 106) (h2 : N 113 = M 113) : RV N W := by
  unfold RV at h ⊢
  rw [h1, h2]
  exact h
theorem upI_self {f : Nat → Int32} {k : Nat} {x : Int32} (h : f k = x) : upI f k x = f := by
  funext j
  unfold upI
  split
  · rename_i e
    rw [e, h]
  · rfl
theorem RV_13 {M : Mem} {W : (Nat × Nat × Nat × Nat × (Nat → Nat))} {x : Int32} (h : RV M W) : RV (upM M 106 (upI (M 106) 13 x)) W := h
theorem m115L {σ : Sg} (hm : IsM σ) {s : Nat → Nat} (g : Gph s) (h7 : s 7 < 10) (h19 : s 19 < 1000) : ∀ (n x : Nat) (W : (Nat × Nat × Nat × Nat × (Nat → Nat))) (M : Mem) (l1 : Option Value), W.2.1 + n = 10 → IW s W → RV M W → M 107 = nf (mkS s x W.2.2.1 W.2.2.2.1) → M 106 13 = nI 0 → x < 2147483647 → ∃ M' l', (∀ Q, wp 115 4 [some (.ref 106), l1] [] σ M Q = wp 115 118 [some (.ref 106), l'] [] σ M' Q) ∧ RV M' (walk s n x W).2.1 ∧ M' 107 = nf (mkS s (walk s n x W).1 (walk s n x W).2.1.2.2.1 (walk s n x W).2.1.2.2.2.1) ∧ M' 106 13 = nI (walk s n x W).2.2 ∧ (∀ o, o ≠ 106 → o ≠ 107 → o ≠ 113 → M' o = M o) ∧ (∀ i, i < 8 ∨ 13 < i → M' 106 i = M 106 i)
  | 0, x, W, M, l1, hn, i, _, _, _, _ => by have := i.1; omega
  | n + 1, x, W, M, l1, hn, i, rv, hs, hw, hx => by
    have rv' := rv
    obtain ⟨v1, v2, v3, v4, v5, v6⟩ := rv'
    have g0 := g.1
    have g1 := g.2.1
    have hh : hr W < 10 := Nat.lt_of_lt_of_le (i.2.2.1 W.2.1 (Nat.le_refl _)) g0
    have hb : W.2.2.2.1 < 1024 := i.2.2.2.2.1
    have hlong : W.1 ≤ 180 := by have := i.2.2.2.2.2.2.2.2.1; have := i.1; omega
    have e7 : mkS s x W.2.2.1 W.2.2.2.1 7 = s 7 := mk_lo (by omega) (by omega)
    have e19 : mkS s x W.2.2.1 W.2.2.2.1 19 = s 19 := mk_lo (by omega) (by omega)
    have gm := eqg_Gph (eqg_mk (x := x) (a := W.2.2.1) (b := W.2.2.2.1)) g
    have z13 : (nI 0 = 0) := nI_0
    unfold walk
    by_cases c1 : hr W = s 7
    · rw [if_pos c1]
      refine ⟨M, l1, fun Q => ?_, rv, hs, hw, fun _ _ _ _ => rfl, fun _ _ => rfl⟩
      rw [k115_4]
      simp only [k115_5, k115_8, k115_9, k115_12, k115_14, k115_15, im_t106 hm, im_t107 hm, im_t108 hm, im_t109 hm, im_t110 hm, im_t111 hm, im_t112 hm, im_t113 hm, im_t114 hm, im_t115 hm, im_t116 hm, im_l107 hm, im_l108 hm, im_l109 hm, im_l110 hm, im_l111 hm, im_l112 hm, im_l113 hm, im_l114 hm, im_l115 hm, im_l116 hm, im_r0 hm, im_r1 hm, im_r2 hm, im_r3 hm, im_r5 hm, im_r7 hm, im_r14 hm, im_r15 hm, im_r16 hm, im_r22 hm, rf_s, pushR_s, pushR_n, le4_0, le4_1, le4_2, le4_3, le4_4, isLong_n, isLong_i, isLong_r, isLong_f, if_true, if_false, not_true_eq_false, not_false_eq_true, isI_0, isI_9, isAr_0, isAr_1, isAr_2, isAr_9, okR_i, okR_0, okR_1, putI_0, putI_b0, putI_b1, nI_10, nI_00, Nat.reduceLT, Nat.reduceLeDiff, nI_add, upM_s, upI_s, pk_mul, nf_at, hs, v1, e7, c1]
    · rw [if_neg c1]
      have n7 : ¬ nI (hr W) = nI (s 7) := ne_n (by omega) (by omega) c1
      by_cases c2 : sm s (hr W) W.2.2.2.1 = 0
      · rw [if_pos c2]
        have c2' := (eqg_sm (eqg_mk (x := x) (a := W.2.2.1) (b := W.2.2.2.1)) g (h := hr W) (b := W.2.2.2.1)).trans c2
        have m := fun Q => m114_0 (Q := Q) hm hs gm hh hb v1 v5 c2'
        refine ⟨upM M 106 (upI (M 106) 13 (nI 1)), some (.int (-1)), fun Q => ?_, ?_, hs, ?_, ?_, ?_⟩
        · rw [k115_4]
          simp only [k115_5, k115_8, k115_9, k115_12, k115_14, k115_15, k115_18, k115_19, k115_22, k115_25, k115_26, k115_29, k115_30, k115_31, k115_32, k115_33, k115_36, k115_37, k115_40, k115_41, k115_44, k115_45, k115_46, k115_47, k115_50, k115_51, k115_52, k115_55, k115_57, k115_58, k115_61, k115_62, k115_65, k115_66, k115_69, k115_70, k115_73, im_t106 hm, im_t107 hm, im_t108 hm, im_t109 hm, im_t110 hm, im_t111 hm, im_t112 hm, im_t113 hm, im_t114 hm, im_t115 hm, im_t116 hm, im_l107 hm, im_l108 hm, im_l109 hm, im_l110 hm, im_l111 hm, im_l112 hm, im_l113 hm, im_l114 hm, im_l115 hm, im_l116 hm, im_r0 hm, im_r1 hm, im_r2 hm, im_r3 hm, im_r5 hm, im_r7 hm, im_r14 hm, im_r15 hm, im_r16 hm, im_r22 hm, rf_s, pushR_s, pushR_n, le4_0, le4_1, le4_2, le4_3, le4_4, isLong_n, isLong_i, isLong_r, isLong_f, if_true, if_false, not_true_eq_false, not_false_eq_true, isI_0, isI_9, isAr_0, isAr_1, isAr_2, isAr_9, okR_i, okR_0, okR_1, putI_0, putI_b0, putI_b1, nI_10, nI_00, Nat.reduceLT, Nat.reduceLeDiff, nI_add, upM_s, upI_s, pk_mul, nf_at, hs, v1, e7, n7, hw, m]
          rw [k115_115, k115_4]
          simp only [k115_5, k115_8, k115_9, k115_12, k115_14, k115_15, k115_18, k115_19, k115_22, im_t106 hm, im_t107 hm, im_t108 hm, im_t109 hm, im_t110 hm, im_t111 hm, im_t112 hm, im_t113 hm, im_t114 hm, im_t115 hm, im_t116 hm, im_l107 hm, im_l108 hm, im_l109 hm, im_l110 hm, im_l111 hm, im_l112 hm, im_l113 hm, im_l114 hm, im_l115 hm, im_l116 hm, im_r0 hm, im_r1 hm, im_r2 hm, im_r3 hm, im_r5 hm, im_r7 hm, im_r14 hm, im_r15 hm, im_r16 hm, im_r22 hm, rf_s, pushR_s, pushR_n, le4_0, le4_1, le4_2, le4_3, le4_4, isLong_n, isLong_i, isLong_r, isLong_f, if_true, if_false, not_true_eq_false, not_false_eq_true, isI_0, isI_9, isAr_0, isAr_1, isAr_2, isAr_9, okR_i, okR_0, okR_1, putI_0, putI_b0, putI_b1, nI_10, nI_00, Nat.reduceLT, Nat.reduceLeDiff, nI_add, upM_s, upI_s, pk_mul, nf_at, upI_n, upM_n, ne_eq, Nat.reduceEqDiff, hs, v1, e7, n7]
        · exact ⟨v1, v2, v3, v4, v5, v6⟩
        · show _ = nI 1
          rw [upM_s, upI_s]
        · intro o h1 _ _; exact upM_n h1
        · intro j hj; exact upI_n (by omega)
      · rw [if_neg c2]
        have c2' : sm (mkS s x W.2.2.1 W.2.2.2.1) (hr W) W.2.2.2.1 ≠ 0 := by rw [eqg_sm eqg_mk g]; exact c2
        obtain ⟨p1, p2⟩ := pkx_ok (x := x) c2
        have m := fun Q => m114_1 (Q := Q) hm hs gm hh hb v1 v5 c2' hx
        rw [pth_mk g, mk_8, mk_x] at m
        generalize hk : pkx s x W = k at *
        have q := g.2.2 k p1
        have nk : ¬ nI k = -1 := ne_m1 (by omega)
        have el : mkS s (nx x) W.2.2.1 W.2.2.2.1 (30 + 6 * k + 2) = s (30 + 6 * k + 2) := eqg_mk.2.2 k 2 (by omega) (by omega)
        have ey : mkS s (nx x) W.2.2.1 W.2.2.2.1 7 = s 7 := mk_lo (by omega) (by omega)
        have ez : mkS s (nx x) W.2.2.1 W.2.2.2.1 19 = s 19 := mk_lo (by omega) (by omega)
        have hN : (upM M 107 (nf (mkS s (nx x) W.2.2.1 W.2.2.2.1))) 107 = nf (mkS s (nx x) W.2.2.1 W.2.2.2.1) := upM_s
        have hO : (upM M 107 (nf (mkS s (nx x) W.2.2.1 W.2.2.2.1))) 106 = M 106 := rfl
        have m2 := fun Q => m102 (M := upM M 107 (nf (mkS s (nx x) W.2.2.1 W.2.2.2.1))) (Q := Q) hm (k := k) (w := 2) (by omega) (by omega)
        have fr : ∀ o, o ≠ 107 → (upM M 107 (nf (mkS s (nx x) W.2.2.1 W.2.2.2.1))) o = M o := fun o h => upM_n h
        have rvN : RV (upM M 107 (nf (mkS s (nx x) W.2.2.1 W.2.2.2.1))) W := RV_fr rv hO (fr 113 (by decide))
        generalize upM M 107 (nf (mkS s (nx x) W.2.2.1 W.2.2.2.1)) = N at *
        unfold pOk at q
        by_cases c3 : s 19 < W.1 + s (30 + 6 * k + 2)
        · rw [if_pos c3]
          have e3 : nI (s 19) < nI (W.1 + s (30 + 6 * k + 2)) := nI_lt c3 (by omega)
          have e3' : ¬ nI (W.1 + s (30 + 6 * k + 2)) ≤ nI (s 19) := nI_ge c3 (by omega)
          refine ⟨upM N 106 (upI (N 106) 13 (nI 2)), some (.int (nI k)), fun Q => ?_, ?_, ?_, ?_, ?_, ?_⟩
          · rw [k115_4]
            have z2 : ¬ nI 2 = 0 := by decide
            simp only [k115_5, k115_8, k115_9, k115_12, k115_14, k115_15, k115_18, k115_19, k115_22, k115_25, k115_26, k115_29, k115_30, k115_31, k115_32, k115_33, k115_36, k115_37, k115_40, k115_41, k115_44, k115_45, k115_46, k115_47, k115_50, k115_51, k115_52, k115_55, k115_57, k115_58, k115_61, k115_62, k115_65, k115_66, k115_69, k115_70, k115_73, im_t106 hm, im_t107 hm, im_t108 hm, im_t109 hm, im_t110 hm, im_t111 hm, im_t112 hm, im_t113 hm, im_t114 hm, im_t115 hm, im_t116 hm, im_l107 hm, im_l108 hm, im_l109 hm, im_l110 hm, im_l111 hm, im_l112 hm, im_l113 hm, im_l114 hm, im_l115 hm, im_l116 hm, im_r0 hm, im_r1 hm, im_r2 hm, im_r3 hm, im_r5 hm, im_r7 hm, im_r14 hm, im_r15 hm, im_r16 hm, im_r22 hm, rf_s, pushR_s, pushR_n, le4_0, le4_1, le4_2, le4_3, le4_4, isLong_n, isLong_i, isLong_r, isLong_f, if_true, if_false, not_true_eq_false, not_false_eq_true, isI_0, isI_9, isAr_0, isAr_1, isAr_2, isAr_9, okR_i, okR_0, okR_1, putI_0, putI_b0, putI_b1, nI_10, nI_00, Nat.reduceLT, Nat.reduceLeDiff, nI_add, upM_s, upI_s, pk_mul, nf_at, hs, v1, e7, n7, hw, m, nk, hO, v2, m2, hN, el, ez, e3, e3', z2]
            rw [k115_115, k115_4]
            simp only [k115_5, k115_8, k115_9, k115_12, k115_14, k115_15, k115_18, k115_19, k115_22, im_t106 hm, im_t107 hm, im_t108 hm, im_t109 hm, im_t110 hm, im_t111 hm, im_t112 hm, im_t113 hm, im_t114 hm, im_t115 hm, im_t116 hm, im_l107 hm, im_l108 hm, im_l109 hm, im_l110 hm, im_l111 hm, im_l112 hm, im_l113 hm, im_l114 hm, im_l115 hm, im_l116 hm, im_r0 hm, im_r1 hm, im_r2 hm, im_r3 hm, im_r5 hm, im_r7 hm, im_r14 hm, im_r15 hm, im_r16 hm, im_r22 hm, rf_s, pushR_s, pushR_n, le4_0, le4_1, le4_2, le4_3, le4_4, isLong_n, isLong_i, isLong_r, isLong_f, if_true, if_false, not_true_eq_false, not_false_eq_true, isI_0, isI_9, isAr_0, isAr_1, isAr_2, isAr_9, okR_i, okR_0, okR_1, putI_0, putI_b0, putI_b1, nI_10, nI_00, Nat.reduceLT, Nat.reduceLeDiff, nI_add, upM_s, upI_s, pk_mul, nf_at, upI_n, upM_n, ne_eq, Nat.reduceEqDiff, hN, hO, v1, ey, n7, z2]
          · exact RV_13 rvN
          · rw [upM_n (by decide)]; exact hN
          · show _ = nI 2
            rw [upM_s, upI_s]
          · intro o h1 h2 _; rw [upM_n h1]; exact fr o h2
          · intro j hj; rw [upM_s, upI_n (by omega), hO]
        · rw [if_neg c3]
          have e3 : ¬ nI (s 19) < nI (W.1 + s (30 + 6 * k + 2)) := nI_nlt (by omega) (by omega)
          have e3' : nI (W.1 + s (30 + 6 * k + 2)) ≤ nI (s 19) := nI_le (by omega) (by omega)
          obtain ⟨d1, d2, d3, d4⟩ := cg_1 g p1 p2
          obtain ⟨w9, ia⟩ := IW_adv g i p1 p2
          have ea : acr (mkS s (nx x) W.2.2.1 W.2.2.2.1) k (hr W) = acr s k (hr W) := eqg_acr eqg_mk (by omega)
          have eadv : adv (mkS s (nx x) W.2.2.1 W.2.2.2.1) W k = adv s W k := eqg_adv eqg_mk (by omega)
          have self : upM N 106 (upI (M 106) 13 (nI 0)) = N := upM_self (by rw [hO, upI_self hw])
          have gn := eqg_Gph (eqg_mk (x := nx x) (a := W.2.2.1) (b := W.2.2.2.1)) g
          obtain ⟨N1, a1, a2, a3, a4⟩ := m113 hm hN gn rvN (k := k) p1 hh (by rw [ea]; omega) w9
          rw [eadv] at a2
          have hN1 : N1 107 = nf (mkS s (nx x) W.2.2.1 W.2.2.2.1) := by rw [a3 107 (by decide) (by decide), hN]
          have h13 : N1 106 13 = nI 0 := by rw [a4 13 (by omega), hO, hw]
          have hb0 : bit W.2.2.2.1 0 = 1 := (i.2.2.2.2.2.2.1 0 (by omega)).2 ⟨0, Nat.zero_le _, i.2.1⟩
          have t0 : acr s k (hr W) ≠ 0 := fun e => by rw [e, hb0] at d3; omega
          have k0 : bit W.2.2.1 k = 0 := by
            have h2 := @bit_lt W.2.2.1 k
            rcases (show bit W.2.2.1 k = 0 ∨ bit W.2.2.1 k = 1 by omega) with h | h
            · exact h
            · have h3 := i.2.2.2.2.2.2.2.2.2 k h
              rcases d4 with ⟨_, e⟩ | ⟨_, e⟩
              · rw [← e, d3] at h3; omega
              · rw [← e, d3] at h3; omega
          have m5 := fun Q => m102 (M := N1) (Q := Q) hm (k := k) (w := 5) (by omega) (by omega)
          have m6 := fun x Q => m103 (M := N1) (x := x) (Q := Q) hm (k := k) (w := 5) (by omega) (by omega)
          have hr1 : hr (adv s W k) = acr s k (hr W) := upN_s
          have h8 : N1 106 8 = nI (acr s k (hr W)) := by rw [a2.1, hr1]
          have hgo := mk_go (s := s) (x := nx x) (a := W.2.2.1) (b := W.2.2.2.1) (k := k) (t := acr s k (hr W)) (by omega) (by omega) t0 k0 d3
          have hne : (126 + 2 * acr s k (hr W) + 0) ≠ 30 + 6 * k + 5 := by omega
          have hlt : 126 + 2 * acr s k (hr W) + 0 < 146 := by omega
          obtain ⟨M', l', q1, q2, q3, q4, q5, q6⟩ := m115L hm g h7 h19 n (nx x) (adv s W k) (upM N1 107 (nf (mkS s (nx x) (W.2.2.1 ||| 2 ^ k) (W.2.2.2.1 ||| 2 ^ acr s k (hr W))))) (some (.int (nI k))) (by show W.2.1 + 1 + n = 10; omega) ia (RV_fr a2 rfl rfl) upM_s h13 nx_lt
          refine ⟨M', l', fun Q => ?_, q2, q3, q4, ?_, ?_⟩
          · rw [← q1, k115_4]
            simp only [k115_5, k115_8, k115_9, k115_12, k115_14, k115_15, k115_18, k115_19, k115_22, k115_25, k115_26, k115_29, k115_30, k115_31, k115_32, k115_33, k115_36, k115_37, k115_40, k115_41, k115_44, k115_45, k115_46, k115_47, k115_50, k115_51, k115_52, k115_55, k115_57, k115_58, k115_61, k115_62, k115_65, k115_66, k115_69, k115_70, k115_73, k115_76, k115_77, k115_78, k115_81, k115_82, k115_83, k115_84, k115_85, k115_86, k115_87, k115_90, k115_91, k115_92, k115_95, k115_96, k115_99, k115_101, k115_102, k115_103, k115_106, k115_107, k115_108, k115_109, k115_110, k115_111, k115_112, k115_113, k115_114, im_t106 hm, im_t107 hm, im_t108 hm, im_t109 hm, im_t110 hm, im_t111 hm, im_t112 hm, im_t113 hm, im_t114 hm, im_t115 hm, im_t116 hm, im_l107 hm, im_l108 hm, im_l109 hm, im_l110 hm, im_l111 hm, im_l112 hm, im_l113 hm, im_l114 hm, im_l115 hm, im_l116 hm, im_r0 hm, im_r1 hm, im_r2 hm, im_r3 hm, im_r5 hm, im_r7 hm, im_r14 hm, im_r15 hm, im_r16 hm, im_r22 hm, rf_s, pushR_s, pushR_n, le4_0, le4_1, le4_2, le4_3, le4_4, isLong_n, isLong_i, isLong_r, isLong_f, if_true, if_false, not_true_eq_false, not_false_eq_true, isI_0, isI_9, isAr_0, isAr_1, isAr_2, isAr_9, okR_i, okR_0, okR_1, putI_0, putI_b0, putI_b1, nI_10, nI_00, Nat.reduceLT, Nat.reduceLeDiff, nI_add, upM_s, upI_s, pk_mul, nf_at, upI_n, upM_n, ne_eq, Nat.reduceEqDiff, hs, v1, e7, n7, hw, m, nk, hO, v2, m2, hN, el, ez, e3, e3', self, a1, m5, m6, hN1, h8, upI_nf, upM_up, hlt, upN_n hne, hgo]
            rw [k115_115]
          · intro o h1 h2 h3
            rw [q5 o h1 h2 h3, upM_n h2, a3 o h1 h3, fr o h2]
          · intro j hj
            rw [q6 j hj, upM_n (by decide), a4 j (by omega), hO]
theorem fin_eq {S : Nat → Nat} {h y a b c d : Nat} (hh : h < 10) (hy : y = 0 ∧ a = 0 ∧ b = 1 ∧ c = 0 ∧ d = 0 ∨ y = 1 ∧ a = 1 ∧ b = 0 ∧ c = 1 ∧ d = 0 ∨ y = 2 ∧ a = 0 ∧ b = 0 ∧ c = 0 ∧ d = 1) : upN (upN (upN (upN (upN S (126 + 2 * h + 1) (S (126 + 2 * h + 1) + a)) 3 (S 3 + 1)) 4 (S 4 + b)) 5 (S 5 + c)) 6 (S 6 + d) = fin S h y := by
  funext j
  unfold upN fin
  rcases hy with ⟨h1, h2, h3, h4, h5⟩ | ⟨h1, h2, h3, h4, h5⟩ | ⟨h1, h2, h3, h4, h5⟩ <;> subst h1 h2 h3 h4 h5
  all_goals
    by_cases c1 : j = 126 + 2 * h + 1
    · subst c1
      repeat rw [if_neg (by omega)]
      simp [show 127 + 2 * h = 126 + 2 * h + 1 by omega]
    · rw [if_neg (show ¬ j = 127 + 2 * h by omega), if_neg c1]
      by_cases c6 : j = 6
      · subst c6; simp
      · by_cases c5 : j = 5
        · subst c5; simp
        · by_cases c4 : j = 4
          · subst c4; simp
          · by_cases c3 : j = 3
            · subst c3; simp
            · simp [c3, c4, c5, c6]
theorem m115 {σ : Sg} {M : Mem} (hm : IsM σ) {s : Nat → Nat} (hs : M 107 = nf s) (g : Gph s) (g0 : 0 < s 0) (h7 : s 7 < 10) (h19 : s 19 < 1000) (hx : s 8 < 2147483647) : ∃ M', (∀ Q, wp 115 0 [some (.ref 106), none] [] σ M Q = Q none σ M') ∧ RV M' (wlk s).2.1 ∧ M' 107 = nf (antS s) ∧ M' 106 13 = nI (wlk s).2.2 ∧ (∀ o, o ≠ 106 → o ≠ 107 → o ≠ 113 → M' o = M o) ∧ (∀ i, i < 8 ∨ 13 < i → M' 106 i = M 106 i) := by
  obtain ⟨M1, a1, a2, a3, a4, a5⟩ := m111 (M := M) hm
  have hs1 : M1 107 = nf (mkS s (s 8) W0.2.2.1 W0.2.2.2.1) := by rw [a4 107 (by decide) (by decide), hs]; exact congrArg nf mk_0.symm
  obtain ⟨M2, l2, b1, b2, b3, b4, b5, b6⟩ := m115L hm g h7 h19 10 (s 8) W0 M1 none rfl (IW_0 g0) a2 hs1 a3 hx
  obtain ⟨w1, w2, w3, w4⟩ := walk_ok g 10 (s 8) W0 rfl (IW_0 g0) hx
  rw [← wlk] at b2 b3 b4 w1 w2 w3 w4
  have hh : hr (wlk s).2.1 < 10 := Nat.lt_of_lt_of_le (w2.2.2.1 _ (Nat.le_refl _)) g.1
  have v8 := b2.1
  unfold antS
  generalize mkS s (wlk s).1 (wlk s).2.1.2.2.1 (wlk s).2.1.2.2.2.1 = S at *
  generalize hW : (wlk s).2.1 = W at *
  generalize (wlk s).2.2 = y at *
  generalize hr W = h at *
  have hlt : 126 + 2 * h + 1 < 146 := by omega
  have n3 : (3 : Nat) ≠ 126 + 2 * h + 1 := by omega
  have n4 : (4 : Nat) ≠ 126 + 2 * h + 1 := by omega
  have n5 : (5 : Nat) ≠ 126 + 2 * h + 1 := by omega
  have n6 : (6 : Nat) ≠ 126 + 2 * h + 1 := by omega
  have nn : ∀ {s : Nat → Nat} {x : Nat} {k j : Nat}, (j = k) = False → upN s k x j = s j := fun h => upN_n (of_eq_false h)
  refine ⟨upM M2 107 (nf (fin S h y)), fun Q => ?_, RV_fr b2 rfl rfl, upM_s, b4, fun o h1 h2 h3 => ?_, fun i hi => ?_⟩
  · have z1 : ¬ (nI 0 = nI 1) := by decide
    have z2 : ¬ (nI 0 = nI 2) := by decide
    have z3 : ¬ (nI 1 = nI 2) := by decide
    have z4 : ¬ (nI 2 = nI 1) := by decide
    have z5 : ¬ (nI 2 = 0) := by decide
    simp only [k115_0, k115_1, im_t106 hm, im_t107 hm, im_t108 hm, im_t109 hm, im_t110 hm, im_t111 hm, im_t112 hm, im_t113 hm, im_t114 hm, im_t115 hm, im_t116 hm, im_l107 hm, im_l108 hm, im_l109 hm, im_l110 hm, im_l111 hm, im_l112 hm, im_l113 hm, im_l114 hm, im_l115 hm, im_l116 hm, im_r0 hm, im_r1 hm, im_r2 hm, im_r3 hm, im_r5 hm, im_r7 hm, im_r14 hm, im_r15 hm, im_r16 hm, im_r22 hm, rf_s, pushR_s, pushR_n, le4_0, le4_1, le4_2, le4_3, le4_4, isLong_n, isLong_i, isLong_r, isLong_f, if_true, if_false, not_true_eq_false, not_false_eq_true, isI_0, isI_9, isAr_0, isAr_1, isAr_2, isAr_9, okR_i, okR_0, okR_1, putI_0, putI_b0, putI_b1, nI_10, nI_00, Nat.reduceLT, Nat.reduceLeDiff, nI_add, upM_s, upI_s, pk_mul, nf_at, a1, b1]
    rcases (show y = 0 ∨ y = 1 ∨ y = 2 by omega) with e | e | e <;> subst e
    · simp only [k115_118, k115_119, k115_122, k115_124, k115_125, k115_126, k115_129, k115_130, k115_131, k115_132, k115_133, k115_134, k115_135, k115_136, k115_139, k115_140, k115_143, k115_144, k115_147, k115_148, k115_149, k115_150, k115_151, k115_154, k115_155, k115_156, k115_157, k115_158, k115_159, k115_160, k115_161, k115_164, k115_165, k115_166, k115_167, k115_168, k115_171, k115_174, k115_175, k115_178, k115_179, k115_180, k115_181, k115_182, k115_185, k115_186, k115_187, k115_188, k115_189, k115_192, k115_193, k115_196, k115_197, k115_200, k115_201, k115_202, k115_203, k115_204, k115_207, k115_209, k115_210, k115_211, k115_212, k115_215, k115_216, k115_219, k115_220, k115_223, k115_224, k115_225, k115_226, im_t106 hm, im_t107 hm, im_t108 hm, im_t109 hm, im_t110 hm, im_t111 hm, im_t112 hm, im_t113 hm, im_t114 hm, im_t115 hm, im_t116 hm, im_l107 hm, im_l108 hm, im_l109 hm, im_l110 hm, im_l111 hm, im_l112 hm, im_l113 hm, im_l114 hm, im_l115 hm, im_l116 hm, im_r0 hm, im_r1 hm, im_r2 hm, im_r3 hm, im_r5 hm, im_r7 hm, im_r14 hm, im_r15 hm, im_r16 hm, im_r22 hm, rf_s, pushR_s, pushR_n, le4_0, le4_1, le4_2, le4_3, le4_4, isLong_n, isLong_i, isLong_r, isLong_f, if_true, if_false, not_true_eq_false, not_false_eq_true, isI_0, isI_9, isAr_0, isAr_1, isAr_2, isAr_9, okR_i, okR_0, okR_1, putI_0, putI_b0, putI_b1, nI_10, nI_00, Nat.reduceLT, Nat.reduceLeDiff, nI_add, upM_s, upI_s, pk_mul, nf_at, upI_n, upM_n, ne_eq, Nat.reduceEqDiff, b3, v8, b4, z1, z2, z3, z4, z5, hlt, upI_nf, upM_up, upN_n n3, upN_n n4, upN_n n5, upN_n n6, upN_n]
      rw [fin_eq hh (Or.inl ⟨rfl, rfl, rfl, rfl, rfl⟩)]
    · simp only [k115_118, k115_119, k115_122, k115_124, k115_125, k115_126, k115_129, k115_130, k115_131, k115_132, k115_133, k115_134, k115_135, k115_136, k115_139, k115_140, k115_143, k115_144, k115_147, k115_148, k115_149, k115_150, k115_151, k115_154, k115_155, k115_156, k115_157, k115_158, k115_159, k115_160, k115_161, k115_164, k115_165, k115_166, k115_167, k115_168, k115_171, k115_174, k115_175, k115_178, k115_179, k115_180, k115_181, k115_182, k115_185, k115_186, k115_187, k115_188, k115_189, k115_192, k115_193, k115_196, k115_197, k115_200, k115_201, k115_202, k115_203, k115_204, k115_207, k115_209, k115_210, k115_211, k115_212, k115_215, k115_216, k115_219, k115_220, k115_223, k115_224, k115_225, k115_226, im_t106 hm, im_t107 hm, im_t108 hm, im_t109 hm, im_t110 hm, im_t111 hm, im_t112 hm, im_t113 hm, im_t114 hm, im_t115 hm, im_t116 hm, im_l107 hm, im_l108 hm, im_l109 hm, im_l110 hm, im_l111 hm, im_l112 hm, im_l113 hm, im_l114 hm, im_l115 hm, im_l116 hm, im_r0 hm, im_r1 hm, im_r2 hm, im_r3 hm, im_r5 hm, im_r7 hm, im_r14 hm, im_r15 hm, im_r16 hm, im_r22 hm, rf_s, pushR_s, pushR_n, le4_0, le4_1, le4_2, le4_3, le4_4, isLong_n, isLong_i, isLong_r, isLong_f, if_true, if_false, not_true_eq_false, not_false_eq_true, isI_0, isI_9, isAr_0, isAr_1, isAr_2, isAr_9, okR_i, okR_0, okR_1, putI_0, putI_b0, putI_b1, nI_10, nI_00, Nat.reduceLT, Nat.reduceLeDiff, nI_add, upM_s, upI_s, pk_mul, nf_at, upI_n, upM_n, ne_eq, Nat.reduceEqDiff, b3, v8, b4, z1, z2, z3, z4, z5, hlt, upI_nf, upM_up, upN_n n3, upN_n n4, upN_n n5, upN_n n6, upN_n]
      rw [fin_eq hh (Or.inr (Or.inl ⟨rfl, rfl, rfl, rfl, rfl⟩))]
    · simp only [k115_118, k115_119, k115_122, k115_124, k115_125, k115_126, k115_129, k115_130, k115_131, k115_132, k115_133, k115_134, k115_135, k115_136, k115_139, k115_140, k115_143, k115_144, k115_147, k115_148, k115_149, k115_150, k115_151, k115_154, k115_155, k115_156, k115_157, k115_158, k115_159, k115_160, k115_161, k115_164, k115_165, k115_166, k115_167, k115_168, k115_171, k115_174, k115_175, k115_178, k115_179, k115_180, k115_181, k115_182, k115_185, k115_186, k115_187, k115_188, k115_189, k115_192, k115_193, k115_196, k115_197, k115_200, k115_201, k115_202, k115_203, k115_204, k115_207, k115_209, k115_210, k115_211, k115_212, k115_215, k115_216, k115_219, k115_220, k115_223, k115_224, k115_225, k115_226, im_t106 hm, im_t107 hm, im_t108 hm, im_t109 hm, im_t110 hm, im_t111 hm, im_t112 hm, im_t113 hm, im_t114 hm, im_t115 hm, im_t116 hm, im_l107 hm, im_l108 hm, im_l109 hm, im_l110 hm, im_l111 hm, im_l112 hm, im_l113 hm, im_l114 hm, im_l115 hm, im_l116 hm, im_r0 hm, im_r1 hm, im_r2 hm, im_r3 hm, im_r5 hm, im_r7 hm, im_r14 hm, im_r15 hm, im_r16 hm, im_r22 hm, rf_s, pushR_s, pushR_n, le4_0, le4_1, le4_2, le4_3, le4_4, isLong_n, isLong_i, isLong_r, isLong_f, if_true, if_false, not_true_eq_false, not_false_eq_true, isI_0, isI_9, isAr_0, isAr_1, isAr_2, isAr_9, okR_i, okR_0, okR_1, putI_0, putI_b0, putI_b1, nI_10, nI_00, Nat.reduceLT, Nat.reduceLeDiff, nI_add, upM_s, upI_s, pk_mul, nf_at, upI_n, upM_n, ne_eq, Nat.reduceEqDiff, b3, v8, b4, z1, z2, z3, z4, z5, hlt, upI_nf, upM_up, upN_n n3, upN_n n4, upN_n n5, upN_n n6, upN_n]
      rw [fin_eq hh (Or.inr (Or.inr ⟨rfl, rfl, rfl, rfl, rfl⟩))]
  · rw [upM_n h2, b5 o h1 h2 h3, a4 o h1 h3]
  · rw [upM_n (by decide), b6 i hi, a5 i hi]
