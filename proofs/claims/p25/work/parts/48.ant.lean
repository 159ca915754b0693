/-! what ants do to a ground -/
def mapP (w : Nat) (s : Nat → Nat) (n : Nat) (f : Nat → Nat) : Nat → Nat := fun j => if 30 ≤ j ∧ j < 30 + 6 * n ∧ j % 6 = w then f ((j - 30) / 6) else s j
theorem mapP_0 {w : Nat} {s f : Nat → Nat} : mapP w s 0 f = s := by
  funext j
  unfold mapP
  rw [if_neg (by omega)]
theorem mapP_lo {w : Nat} {s f : Nat → Nat} {n j : Nat} (h : j < 30 ∨ 126 ≤ j) (hn : n ≤ 16) : mapP w s n f j = s j := by
  unfold mapP
  rw [if_neg (by omega)]
theorem mapP_up {w : Nat} {s f : Nat → Nat} {n : Nat} (hw : w < 6) : upN (mapP w s n f) (30 + 6 * n + w) (f n) = mapP w s (n + 1) f := by
  funext j
  by_cases c : j = 30 + 6 * n + w
  · subst c
    rw [upN_s]
    unfold mapP
    rw [if_pos (by omega), show (30 + 6 * n + w - 30) / 6 = n by omega]
  · rw [upN_n c]
    unfold mapP
    by_cases c2 : 30 ≤ j ∧ j < 30 + 6 * n ∧ j % 6 = w
    · rw [if_pos c2, if_pos (by omega)]
    · rw [if_neg c2, if_neg (by omega)]
def mapQ (s : Nat → Nat) (n : Nat) (f : Nat → Nat) : Nat → Nat := fun j => if 126 ≤ j ∧ j < 126 + 2 * n ∧ j % 2 = 0 then f ((j - 126) / 2) else s j
theorem mapQ_0 {s f : Nat → Nat} : mapQ s 0 f = s := by
  funext j
  unfold mapQ
  rw [if_neg (by omega)]
theorem mapQ_lo {s f : Nat → Nat} {n j : Nat} (h : j < 126) : mapQ s n f j = s j := by
  unfold mapQ
  rw [if_neg (by omega)]
theorem mapQ_up {s f : Nat → Nat} {n : Nat} : upN (mapQ s n f) (126 + 2 * n + 0) (f n) = mapQ s (n + 1) f := by
  funext j
  by_cases c : j = 126 + 2 * n + 0
  · subst c
    rw [upN_s]
    unfold mapQ
    rw [if_pos (by omega), show (126 + 2 * n + 0 - 126) / 2 = n by omega]
  · rw [upN_n c]
    unfold mapQ
    by_cases c2 : 126 ≤ j ∧ j < 126 + 2 * n ∧ j % 2 = 0
    · rw [if_pos c2, if_pos (by omega)]
    · rw [if_neg c2, if_neg (by omega)]
section GND
variable {σ : Sg} {M : Mem} {g v : Nat} {s : Nat → Nat} {W : (Nat × Nat × Nat × Nat × (Nat → Nat))}
theorem cpW_RG {f : Nat → Nat} (R : RG M g s) (h10 : s 10 ≤ 9) : ∀ n, n ≤ 16 → RG (upM M (g + 7) (cp n (fun k => nI (f k)) (M (g + 7)))) g (mapP 5 s n f)
  | 0, _ => by
    rw [cp_0, upM_self rfl, mapP_0]
    exact R
  | n + 1, hn => by
    have ih := cpW_RG (f := f) R h10 n (by omega)
    have u := RG_up ih (by rw [mapP_lo (by omega) (by omega)]; exact h10) (j := 30 + 6 * n + 5) (x := f n) (by unfold J; omega) (lo_p5 (by omega)) (li_p (by omega) (by omega))
    rw [upM_s, upM_up, cp_up (f := fun k => nI (f k)), mapP_up (by omega)] at u
    exact u
theorem cpQ_RG {f : Nat → Nat} (R : RG M g s) (h10 : s 10 ≤ 9) : ∀ n, n ≤ 10 → RG (upM M (g + 1) (cp n (fun k => nI (f k)) (M (g + 1)))) g (mapQ s n f)
  | 0, _ => by
    rw [cp_0, upM_self rfl, mapQ_0]
    exact R
  | n + 1, hn => by
    have ih := cpQ_RG (f := f) R h10 n (by omega)
    have u := RG_up ih (by rw [mapQ_lo (by omega)]; exact h10) (j := 126 + 2 * n + 0) (x := f n) (by unfold J; omega) lo_q0 (li_q (by omega))
    rw [upM_s, upM_up, cp_up (f := fun k => nI (f k)), mapQ_up] at u
    exact u
/-- not a part of the ground -/
def Out (g v : Nat) : Prop := v + 1 < g ∨ g + 12 < v
theorem c59 (hg : IsG σ g) (hv : IsW σ v) (d : Out g v) (R : RG M g s) (rv : RW M v W) (i : Inv s) (iw : IW s W) {y : Nat} (hy : y ≤ 2) : ∃ M', (∀ Q, wp 59 0 [some (.ref g), some (.ref v), some (.int (nI y)), none] [] σ M Q = Q none σ M') ∧ RG M' g (fin (mkS s (s 8) W.2.2.1 W.2.2.2.1) (hr W) y) ∧ FG M M' g := by
  have h10 := i.2.2.2.2.2
  have g0 := i.1.1
  unfold Out at d
  have j4 := iw.2.2.2.1
  have j5 := iw.2.2.2.2.1
  have b0 : bit W.2.2.2.1 0 = 1 := (iw.2.2.2.2.2.2.1 0 (by omega)).2 ⟨0, Nat.zero_le _, iw.2.1⟩
  have hh : hr W < s 0 := iw.2.2.1 _ (Nat.le_refl _)
  generalize hf : (fun k => s (30 + 6 * k + 5) + bit W.2.2.1 k) = f
  have rA := cpW_RG (f := f) R h10
  have rA16 := rA 16 (Nat.le_refl _)
  generalize hA : mapP 5 s 16 f = A at rA16
  have Aq : ∀ p, A (126 + 2 * p + 0) = s (126 + 2 * p + 0) := fun p => by rw [← hA, mapP_lo (by omega) (Nat.le_refl _)]
  have A10 : A 10 = s 10 := by rw [← hA, mapP_lo (by omega) (Nat.le_refl _)]
  generalize hM1 : upM M (g + 7) (cp 16 (fun k => nI (f k)) (M (g + 7))) = M1 at rA16
  generalize hq : (fun p => if p = 0 then s (126 + 2 * p + 0) else s (126 + 2 * p + 0) + bit W.2.2.2.1 p) = q
  have rB := cpQ_RG (f := q) rA16 (by omega)
  have rB10 := rB 10 (Nat.le_refl _)
  generalize hB : mapQ A 10 q = B at rB10
  generalize hM2 : upM M1 (g + 1) (cp 10 (fun k => nI (q k)) (M1 (g + 1))) = M2 at rB10
  have fr1 : FG M M1 g := by rw [← hM1]; exact FG_u (by omega) (by omega)
  have fr2 : FG M M2 g := by rw [← hM2]; exact FG_t fr1 (FG_u (by omega) (by omega))
  have v2 : RW M2 v W := RW_fr rv (fr2 v (by omega)) (fr2 (v + 1) (by omega))
  have B10 : B 10 = s 10 := by rw [← hB, mapQ_lo (by omega), A10]
  have r3 := RG_up rB10 (by omega) (j := 4 + y) (x := B (4 + y) + 1) (by unfold J; omega) (lo_e (by omega)) (li_e (by omega))
  have BS : ∀ j, j ≠ 3 → j < 146 → B j = mkS s (s 8) W.2.2.1 W.2.2.2.1 j := fun j h3 h1 => by
    rw [← hB, ← hA, ← hq, ← hf]
    unfold mapQ mapP mkS
    by_cases c8 : j = 8
    · subst c8
      rw [if_neg (by omega), if_neg (by omega), if_pos rfl]
    · rw [if_neg c8]
      by_cases c : 30 ≤ j ∧ j < 126 ∧ j % 6 = 5
      · rw [if_neg (by omega), if_pos (by omega), if_pos c]
        show s (30 + 6 * ((j - 30) / 6) + 5) + _ = _
        rw [show 30 + 6 * ((j - 30) / 6) + 5 = j by omega]
      · rw [if_neg c]
        by_cases c2 : 128 ≤ j ∧ j < 146 ∧ j % 2 = 0
        · rw [if_pos (by omega), if_pos c2]
          show (if (j - 126) / 2 = 0 then _ else s (126 + 2 * ((j - 126) / 2) + 0) + _) = _
          rw [if_neg (by omega), show 126 + 2 * ((j - 126) / 2) + 0 = j by omega]
          try rw [if_neg c]
        · rw [if_neg c2]
          by_cases c3 : j = 126
          · subst c3
            rw [if_pos (by omega)]
            rfl
          · rw [if_neg (by omega), if_neg (by omega)]
  have hl : ∀ Q, wp 59 0 [some (.ref g), some (.ref v), some (.int (nI y)), none] [] σ M Q = wp 59 78 [some (.ref g), some (.ref v), some (.int (nI y)), some (.int (nI 10))] [] σ M2 Q := fun Q => by
    simp only [k59_0, k59_1, rf_s, pushR_s, pushR_n, le4_0, le4_1, le4_2, le4_3, le4_4, isLong_n, isLong_i, isLong_r, isLong_f, if_true, if_false, not_true_eq_false, not_false_eq_true, isI_0, isI_9, isAr_0, isAr_1, isAr_2, isAr_9, okR_i, okR_0, okR_1, putI_0, putI_b0, putI_b1, nI_10, nI_00, Nat.reduceLT, Nat.reduceLeDiff, nI_add, upM_s, upI_s, pk_mul, nf_at]
    rw [show wp 59 2 [some (.ref g), some (.ref v), some (.int (nI y)), some (.int (nI 0))] [] σ M Q = wp 59 2 [some (.ref g), some (.ref v), some (.int (nI y)), some (.int (nI 0))] [] σ (upM M (g + 7) (cp 0 (fun k => nI (f k)) (M (g + 7)))) Q from by rw [cp_0, upM_self rfl]]
    refine (wp_up (n := 16) (fun k => [some (.ref g), some (.ref v), some (.int (nI y)), some (.int (nI k))]) (fun k => upM M (g + 7) (cp k (fun k => nI (f k)) (M (g + 7)))) Q (fun k hk => ?_)).trans ?_
    · have e : nI k < nI 16 := nI_lt hk (by omega)
      have rk := RW_fr rv (N := upM M (g + 7) (cp k (fun k => nI (f k)) (M (g + 7)))) (upM_n (by omega)) (upM_n (by omega))
      have m := fun Q => c90 (Q := Q) hv rk j4 hk
      have up := cp_up (f := fun k => nI (f k)) (g := M (g + 7)) (n := k)
      have old : cp k (fun k => nI (f k)) (M (g + 7)) k = nI (s (30 + 6 * k + 5)) := by
        unfold cp
        rw [if_neg (by omega)]
        exact rg_wal R k hk
      have fk : f k = s (30 + 6 * k + 5) + bit W.2.2.1 k := by rw [← hf]
      rw [fk] at up
      rw [k59_2]
      rcases (show bit W.2.2.1 k = 0 ∨ bit W.2.2.1 k = 1 by have := @bit_lt W.2.2.1 k; omega) with c | c <;> rw [c] at up <;> simp only [k59_3, k59_4, k59_7, k59_8, k59_11, k59_12, k59_15, k59_16, k59_17, k59_18, k59_19, k59_20, k59_23, k59_26, k59_27, k59_30, k59_31, k59_32, k59_33, k59_36, ig_t0 hg, ig_t1 hg, ig_t2 hg, ig_t3 hg, ig_t4 hg, ig_t5 hg, ig_t6 hg, ig_t7 hg, ig_t8 hg, ig_t9 hg, ig_t10 hg, ig_t11 hg, ig_t12 hg, ig_l1 hg, ig_l2 hg, ig_l3 hg, ig_l4 hg, ig_l5 hg, ig_l6 hg, ig_l7 hg, ig_l8 hg, ig_l9 hg, ig_l10 hg, ig_l12 hg, ig_r1 hg, ig_r2 hg, ig_r4 hg, ig_r5 hg, ig_r6 hg, ig_r7 hg, ig_r8 hg, ig_r9 hg, ig_r12 hg, ig_r14 hg, ig_r15 hg, ig_rw hg, iw_t0 hv, iw_t1 hv, iw_l1 hv, iw_r0 hv, rf_s, pushR_s, pushR_n, le4_0, le4_1, le4_2, le4_3, le4_4, isLong_n, isLong_i, isLong_r, isLong_f, if_true, if_false, not_true_eq_false, not_false_eq_true, isI_0, isI_9, isAr_0, isAr_1, isAr_2, isAr_9, okR_i, okR_0, okR_1, putI_0, putI_b0, putI_b1, nI_10, nI_00, Nat.reduceLT, Nat.reduceLeDiff, nI_add, upM_s, upI_s, pk_mul, nf_at, e, hk, m, c, old, upM_up, up]
    · have e : ¬ nI 16 < nI 16 := by decide
      rw [hM1, k59_2]
      simp only [k59_3, k59_4, k59_7, k59_8, k59_11, k59_12, k59_15, k59_16, k59_17, k59_18, k59_19, k59_20, k59_23, k59_26, k59_27, k59_30, k59_31, k59_32, k59_33, k59_36, k59_39, k59_40, ig_t0 hg, ig_t1 hg, ig_t2 hg, ig_t3 hg, ig_t4 hg, ig_t5 hg, ig_t6 hg, ig_t7 hg, ig_t8 hg, ig_t9 hg, ig_t10 hg, ig_t11 hg, ig_t12 hg, ig_l1 hg, ig_l2 hg, ig_l3 hg, ig_l4 hg, ig_l5 hg, ig_l6 hg, ig_l7 hg, ig_l8 hg, ig_l9 hg, ig_l10 hg, ig_l12 hg, ig_r1 hg, ig_r2 hg, ig_r4 hg, ig_r5 hg, ig_r6 hg, ig_r7 hg, ig_r8 hg, ig_r9 hg, ig_r12 hg, ig_r14 hg, ig_r15 hg, ig_rw hg, rf_s, pushR_s, pushR_n, le4_0, le4_1, le4_2, le4_3, le4_4, isLong_n, isLong_i, isLong_r, isLong_f, if_true, if_false, not_true_eq_false, not_false_eq_true, isI_0, isI_9, isAr_0, isAr_1, isAr_2, isAr_9, okR_i, okR_0, okR_1, putI_0, putI_b0, putI_b1, nI_10, nI_00, Nat.reduceLT, Nat.reduceLeDiff, nI_add, upM_s, upI_s, pk_mul, nf_at, e]
      have q0 : upM M1 (g + 1) (cp 1 (fun k => nI (q k)) (M1 (g + 1))) = M1 := by
        refine upM_self (funext fun j => ?_)
        unfold cp
        by_cases c : j < 1
        · rw [if_pos c, show j = 0 by omega, ← hq, rg_came rA16 0 (by omega), Aq 0]
          rfl
        · rw [if_neg c]
      rw [show wp 59 41 [some (.ref g), some (.ref v), some (.int (nI y)), some (.int (nI 1))] [] σ M1 Q = wp 59 41 [some (.ref g), some (.ref v), some (.int (nI y)), some (.int (nI (0 + 1)))] [] σ (upM M1 (g + 1) (cp (0 + 1) (fun k => nI (q k)) (M1 (g + 1)))) Q from by rw [Nat.zero_add, q0]]
      refine (wp_up (n := 9) (fun k => [some (.ref g), some (.ref v), some (.int (nI y)), some (.int (nI (k + 1)))]) (fun k => upM M1 (g + 1) (cp (k + 1) (fun k => nI (q k)) (M1 (g + 1)))) Q (fun k hk => ?_)).trans ?_
      · have e : nI (k + 1) < nI 10 := nI_lt (by omega) (by omega)
        have hk2 : k + 1 < 10 := by omega
        have rk := RW_fr rv (N := upM M1 (g + 1) (cp (k + 1) (fun k => nI (q k)) (M1 (g + 1)))) (by rw [upM_n (by omega)]; exact fr1 v (by omega)) (by rw [upM_n (by omega)]; exact fr1 (v + 1) (by omega))
        have m := fun Q => c91 (Q := Q) hv rk j5 (k := k + 1) (by omega)
        have up := cp_up (f := fun k => nI (q k)) (g := M1 (g + 1)) (n := k + 1)
        have old : cp (k + 1) (fun k => nI (q k)) (M1 (g + 1)) (k + 1) = nI (s (126 + 2 * (k + 1) + 0)) := by
          unfold cp
          rw [if_neg (by omega), rg_came rA16 (k + 1) hk2, Aq]
        have fk : q (k + 1) = s (126 + 2 * (k + 1) + 0) + bit W.2.2.2.1 (k + 1) := by rw [← hq]; exact if_neg (by omega)
        rw [fk] at up
        rw [k59_41]
        rcases (show bit W.2.2.2.1 (k + 1) = 0 ∨ bit W.2.2.2.1 (k + 1) = 1 by have := @bit_lt W.2.2.2.1 (k + 1); omega) with c | c <;> rw [c] at up <;> simp only [k59_42, k59_43, k59_46, k59_47, k59_50, k59_51, k59_54, k59_55, k59_56, k59_57, k59_58, k59_59, k59_62, k59_65, k59_66, k59_69, k59_70, k59_71, k59_72, k59_75, ig_t0 hg, ig_t1 hg, ig_t2 hg, ig_t3 hg, ig_t4 hg, ig_t5 hg, ig_t6 hg, ig_t7 hg, ig_t8 hg, ig_t9 hg, ig_t10 hg, ig_t11 hg, ig_t12 hg, ig_l1 hg, ig_l2 hg, ig_l3 hg, ig_l4 hg, ig_l5 hg, ig_l6 hg, ig_l7 hg, ig_l8 hg, ig_l9 hg, ig_l10 hg, ig_l12 hg, ig_r1 hg, ig_r2 hg, ig_r4 hg, ig_r5 hg, ig_r6 hg, ig_r7 hg, ig_r8 hg, ig_r9 hg, ig_r12 hg, ig_r14 hg, ig_r15 hg, ig_rw hg, iw_t0 hv, iw_t1 hv, iw_l1 hv, iw_r0 hv, rf_s, pushR_s, pushR_n, le4_0, le4_1, le4_2, le4_3, le4_4, isLong_n, isLong_i, isLong_r, isLong_f, if_true, if_false, not_true_eq_false, not_false_eq_true, isI_0, isI_9, isAr_0, isAr_1, isAr_2, isAr_9, okR_i, okR_0, okR_1, putI_0, putI_b0, putI_b1, nI_10, nI_00, Nat.reduceLT, Nat.reduceLeDiff, nI_add, upM_s, upI_s, pk_mul, nf_at, e, hk2, m, c, old, upM_up, up]
      · have e : ¬ nI (9 + 1) < nI 10 := by decide
        show wp 59 41 _ [] σ (upM M1 (g + 1) (cp 10 (fun k => nI (q k)) (M1 (g + 1)))) Q = _
        rw [hM2, k59_41]
        simp only [k59_42, k59_43, k59_46, k59_47, k59_50, k59_51, k59_54, k59_55, k59_56, k59_57, k59_58, k59_59, k59_62, k59_65, k59_66, k59_69, k59_70, k59_71, k59_72, k59_75, ig_t0 hg, ig_t1 hg, ig_t2 hg, ig_t3 hg, ig_t4 hg, ig_t5 hg, ig_t6 hg, ig_t7 hg, ig_t8 hg, ig_t9 hg, ig_t10 hg, ig_t11 hg, ig_t12 hg, ig_l1 hg, ig_l2 hg, ig_l3 hg, ig_l4 hg, ig_l5 hg, ig_l6 hg, ig_l7 hg, ig_l8 hg, ig_l9 hg, ig_l10 hg, ig_l12 hg, ig_r1 hg, ig_r2 hg, ig_r4 hg, ig_r5 hg, ig_r6 hg, ig_r7 hg, ig_r8 hg, ig_r9 hg, ig_r12 hg, ig_r14 hg, ig_r15 hg, ig_rw hg, rf_s, pushR_s, pushR_n, le4_0, le4_1, le4_2, le4_3, le4_4, isLong_n, isLong_i, isLong_r, isLong_f, if_true, if_false, not_true_eq_false, not_false_eq_true, isI_0, isI_9, isAr_0, isAr_1, isAr_2, isAr_9, okR_i, okR_0, okR_1, putI_0, putI_b0, putI_b1, nI_10, nI_00, Nat.reduceLT, Nat.reduceLeDiff, nI_add, upM_s, upI_s, pk_mul, nf_at, e]
  have z : ¬ nI y < 0 := nI_pos (by omega)
  have z2 : nI y < nI 3 := nI_lt (by omega) (by omega)
  have hy3 : y < 3 := by omega
  have eE := rg_end rB10 y hy3
  have v3 := RW_fr v2 (N := upM M2 (g + 10) (upI (M2 (g + 10)) y (nI (B (4 + y) + 1)))) (upM_n (by omega)) (upM_n (by omega))
  have mE := fun Q => c89 (Q := Q) hv v3 iw.1
  have f3 : FG M (upM M2 (g + 10) (upI (M2 (g + 10)) y (nI (B (4 + y) + 1)))) g := FG_t fr2 (FG_u (by omega) (by omega))
  have eqJ : ∀ (C : Nat → Nat), (∀ j, j ≠ 3 → j < 146 → C j = fin (mkS s (s 8) W.2.2.1 W.2.2.2.1) (hr W) y j) → RG M2 g B → ∀ N, RG N g C → RG N g (fin (mkS s (s 8) W.2.2.1 W.2.2.2.1) (hr W) y) := fun C hC _ N rN => RG_of (fun j hj => by
      rw [← hC j (by unfold J at hj; omega) (by unfold J at hj; omega)]
      exact RG_to rN j hj) (fun h9 => by
      rw [← hC 9 (by omega) (by omega)] at h9
      rw [← hC 11 (by omega) (by omega)]
      exact rg_bl rN h9) (by
      obtain ⟨V, w1, w2⟩ := rg_best rN
      refine ⟨V, w1, BW_e ?_ (fun i hi => (hC i (by omega) (by omega)).symm) w2⟩
      rw [hC 10 (by omega) (by omega), fin_n (by omega) (by omega) hy, mk_lo (by omega) (by omega)]
      exact h10)
  have hy1 : y = 1 ∨ y ≠ 1 := by omega
  rcases hy1 with c | c
  · subst c
    have hp : hr W < 10 := by omega
    have r4 := RG_up r3 (by rw [upN_n (by omega)]; omega) (j := 126 + 2 * hr W + 1) (x := B (126 + 2 * hr W + 1) + 1) (by unfold J; omega) lo_q1 (li_q (by omega))
    have old := rg_stk r3 (hr W) hp
    rw [upN_n (by omega)] at old
    have inv3 : Inv s := i
    have m38 : ∀ Q, wp 38 0 [some (.ref g), some (.int (nI (hr W)))] [] σ (upM M2 (g + 10) (upI (M2 (g + 10)) 1 (nI (B (4 + 1) + 1)))) Q = Q (some (.int (nI 1))) σ (upM M2 (g + 10) (upI (M2 (g + 10)) 1 (nI (B (4 + 1) + 1)))) := fun Q => by
      have q0 := rg_pc r3
      rw [upN_n (by omega), BS 0 (by omega) (by omega), mk_lo (by omega) (by omega)] at q0
      have z : ¬ nI (hr W) < 0 := nI_pos (by omega)
      have z1 : nI (hr W) < nI (s 0) := nI_lt hh (by omega)
      have z2 : nI (hr W) < nI 10 := nI_lt (by omega) (by omega)
      simp only [k38_0, k38_1, k38_4, k38_5, k38_6, k38_9, k38_12, k38_13, k38_15, k38_18, k38_19, k38_22, k38_23, ig_t0 hg, ig_t1 hg, ig_t2 hg, ig_t3 hg, ig_t4 hg, ig_t5 hg, ig_t6 hg, ig_t7 hg, ig_t8 hg, ig_t9 hg, ig_t10 hg, ig_t11 hg, ig_t12 hg, ig_l1 hg, ig_l2 hg, ig_l3 hg, ig_l4 hg, ig_l5 hg, ig_l6 hg, ig_l7 hg, ig_l8 hg, ig_l9 hg, ig_l10 hg, ig_l12 hg, ig_r1 hg, ig_r2 hg, ig_r4 hg, ig_r5 hg, ig_r6 hg, ig_r7 hg, ig_r8 hg, ig_r9 hg, ig_r12 hg, ig_r14 hg, ig_r15 hg, ig_rw hg, rf_s, pushR_s, pushR_n, le4_0, le4_1, le4_2, le4_3, le4_4, isLong_n, isLong_i, isLong_r, isLong_f, if_true, if_false, not_true_eq_false, not_false_eq_true, isI_0, isI_9, isAr_0, isAr_1, isAr_2, isAr_9, okR_i, okR_0, okR_1, putI_0, putI_b0, putI_b1, nI_10, nI_00, Nat.reduceLT, Nat.reduceLeDiff, nI_add, upM_s, upI_s, pk_mul, nf_at, z, z1, z2, q0]
    refine ⟨_, fun Q => ?_, eqJ _ (fun j h3 h1 => ?_) rB10 _ r4, FG_t f3 (FG_u (by omega) (by omega))⟩
    · rw [hl]
      simp only [k59_78, k59_79, k59_82, k59_83, k59_84, k59_87, k59_88, k59_91, k59_92, k59_95, k59_96, k59_97, k59_98, k59_99, k59_100, k59_101, k59_102, k59_105, k59_106, k59_107, k59_108, k59_111, k59_112, k59_113, k59_116, k59_119, k59_120, k59_123, k59_124, k59_125, k59_126, k59_127, k59_128, k59_129, ig_t0 hg, ig_t1 hg, ig_t2 hg, ig_t3 hg, ig_t4 hg, ig_t5 hg, ig_t6 hg, ig_t7 hg, ig_t8 hg, ig_t9 hg, ig_t10 hg, ig_t11 hg, ig_t12 hg, ig_l1 hg, ig_l2 hg, ig_l3 hg, ig_l4 hg, ig_l5 hg, ig_l6 hg, ig_l7 hg, ig_l8 hg, ig_l9 hg, ig_l10 hg, ig_l12 hg, ig_r1 hg, ig_r2 hg, ig_r4 hg, ig_r5 hg, ig_r6 hg, ig_r7 hg, ig_r8 hg, ig_r9 hg, ig_r12 hg, ig_r14 hg, ig_r15 hg, ig_rw hg, iw_t0 hv, iw_t1 hv, iw_l1 hv, iw_r0 hv, rf_s, pushR_s, pushR_n, le4_0, le4_1, le4_2, le4_3, le4_4, isLong_n, isLong_i, isLong_r, isLong_f, if_true, if_false, not_true_eq_false, not_false_eq_true, isI_0, isI_9, isAr_0, isAr_1, isAr_2, isAr_9, okR_i, okR_0, okR_1, putI_0, putI_b0, putI_b1, nI_10, nI_00, Nat.reduceLT, Nat.reduceLeDiff, nI_add, upM_s, upI_s, pk_mul, nf_at, z, z2, Nat.reduceLT, eE, mE, m38, hp, old]
    · unfold fin upN
      by_cases c1 : j = 126 + 2 * hr W + 1
      · rw [if_pos c1, if_pos (by omega), ← c1, BS j h3 h1, if_pos rfl]
      · rw [if_neg c1, if_neg (show ¬ j = 127 + 2 * hr W by omega), if_neg h3]
        by_cases c2 : j = 4 + 1
        · rw [if_pos c2, if_pos c2, ← c2, BS j h3 h1]
        · rw [if_neg c2, if_neg c2, BS j h3 h1]
  · have zy : ¬ nI y = nI 1 := ne_n (by omega) (by omega) c
    refine ⟨_, fun Q => ?_, eqJ _ (fun j h3 h1 => ?_) rB10 _ r3, f3⟩
    · rw [hl]
      simp only [k59_78, k59_79, k59_82, k59_83, k59_84, k59_87, k59_88, k59_91, k59_92, k59_95, k59_96, k59_97, k59_98, k59_99, k59_100, k59_101, k59_102, k59_105, k59_106, k59_107, k59_108, k59_111, k59_112, k59_113, k59_116, k59_119, k59_120, k59_123, k59_124, k59_125, k59_126, k59_127, k59_128, k59_129, ig_t0 hg, ig_t1 hg, ig_t2 hg, ig_t3 hg, ig_t4 hg, ig_t5 hg, ig_t6 hg, ig_t7 hg, ig_t8 hg, ig_t9 hg, ig_t10 hg, ig_t11 hg, ig_t12 hg, ig_l1 hg, ig_l2 hg, ig_l3 hg, ig_l4 hg, ig_l5 hg, ig_l6 hg, ig_l7 hg, ig_l8 hg, ig_l9 hg, ig_l10 hg, ig_l12 hg, ig_r1 hg, ig_r2 hg, ig_r4 hg, ig_r5 hg, ig_r6 hg, ig_r7 hg, ig_r8 hg, ig_r9 hg, ig_r12 hg, ig_r14 hg, ig_r15 hg, ig_rw hg, iw_t0 hv, iw_t1 hv, iw_l1 hv, iw_r0 hv, rf_s, pushR_s, pushR_n, le4_0, le4_1, le4_2, le4_3, le4_4, isLong_n, isLong_i, isLong_r, isLong_f, if_true, if_false, not_true_eq_false, not_false_eq_true, isI_0, isI_9, isAr_0, isAr_1, isAr_2, isAr_9, okR_i, okR_0, okR_1, putI_0, putI_b0, putI_b1, nI_10, nI_00, Nat.reduceLT, Nat.reduceLeDiff, nI_add, upM_s, upI_s, pk_mul, nf_at, z, z2, hy3, eE, mE, zy]
    · unfold fin upN
      by_cases c1 : j = 4 + y
      · rw [if_pos c1, if_neg (by omega), if_neg h3, if_pos c1, ← c1, BS j h3 h1]
      · rw [if_neg c1]
        by_cases c2 : j = 127 + 2 * hr W
        · rw [if_pos c2, if_neg c, BS j h3 h1]; rfl
        · rw [if_neg c2, if_neg h3, if_neg c1, BS j h3 h1]
end GND
