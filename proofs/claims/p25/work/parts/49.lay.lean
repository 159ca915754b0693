section GND
variable {σ : Sg} {M : Mem} {g v : Nat} {s : Nat → Nat} {W : (Nat × Nat × Nat × Nat × (Nat → Nat))}
theorem isb_at {n j : Nat} (h : 20 ≤ j) (h2 : j < 20 + n) : isb s W n j = W.2.2.2.2 (j - 20) := by
  unfold isb
  rw [if_neg (by omega), if_neg (by omega), if_neg (by omega), if_neg (by omega), if_pos ⟨h, h2⟩]
theorem c60 (hg : IsG σ g) (hv : IsW σ v) (d : Out g v) (R : RG M g s) (rv : RW M v W) (i : Inv s) (iw : IW s W) (p1 : 1 ≤ W.1) (p2 : W.1 ≤ 180) : ∃ M', (∀ Q, wp 60 0 [some (.ref g), some (.ref v)] [] σ M Q = Q none σ M') ∧ RG M' g (bst s W) ∧ FG M M' g := by
  unfold Out at d
  have m41 := fun Q => c41 (Q := Q) hg R i
  obtain ⟨V, w1, w2⟩ := rg_best R
  have ok := BW_ok i w2
  obtain ⟨N, b1, b2, b3⟩ := c93 hv (ig_way hg) (by omega) (by omega) (by omega) rv iw.1
  have e13 : N g 13 = nI (s 2) := by rw [b3 g (by omega) (by omega)]; exact rg_laps R
  have key : ∃ M', M' = upM N g (upI (N g) 16 (nI (s 2))) ∧ RG M' g (isb s W (W.2.1 + 1)) ∧ FG M M' g := by
    have hn : W.2.1 + 1 ≤ 10 := by have := iw.1; omega
    refine ⟨_, rfl, RG_of (fun j hj => ?_) (fun _ => by rw [upM_s, upI_s]; rfl) ⟨W, RW_fr b2 (upM_n (by omega)) (upM_n (by omega)), Or.inr ⟨by show W.1 ≠ 0; omega, rfl, rfl, rfl, iw.2.2.2.2.1, fun i hi => ?_, fun p hp => ?_⟩⟩, fun o ho => by rw [upM_n (by omega), b3 o (by omega) (by omega)]⟩
    · have ge := @lo_ge g j
      have hj' := hj
      unfold J at hj'
      rw [isb_n hn (by omega)]
      have q := RG_to R j hj
      by_cases c : lo g j = g
      · rw [c, upM_s, upI_n, b3 g (by omega) (by omega), ← c]
        · exact q
        · intro e
          have l := iv_ok hj
          rw [lo_0] at c
          rw [show lo 0 j = 0 by omega, e] at l
          have : iv 0 16 = 8 := by decide
          have l8 : li 8 = 11 := by decide
          rw [← l, this, l8] at e
          omega
      · rw [upM_n c, b3 _ (by omega) (by omega)]
        exact q
    · have hi' : i ≤ W.2.1 := hi
      rw [isb_at (by omega) (by omega), show 20 + i - 20 = i by omega]
    · rw [iw.2.2.2.2.2.2.1 p hp]
      constructor
      · rintro ⟨i, hi, e⟩
        exact ⟨i, hi, by rw [isb_at (by omega) (by omega), show 20 + i - 20 = i by omega]; exact e⟩
      · rintro ⟨i, hi, e⟩
        have hi' : i ≤ W.2.1 := hi
        rw [isb_at (by omega) (by omega), show 20 + i - 20 = i by omega] at e
        exact ⟨i, hi, e⟩
  obtain ⟨M', k0, k1, k2⟩ := key
  by_cases c : s 9 = 0
  · have hb : bst s W = isb s W (W.2.1 + 1) := if_pos (Or.inl c)
    rw [hb]
    refine ⟨M', fun Q => ?_, k1, k2⟩
    rw [k0]
    simp only [k60_0, k60_1, k60_4, k60_7, k60_8, k60_11, k60_12, k60_15, k60_18, k60_21, k60_22, k60_23, k60_26, k60_29, k60_30, k60_31, k60_34, k60_37, ig_t0 hg, ig_t1 hg, ig_t2 hg, ig_t3 hg, ig_t4 hg, ig_t5 hg, ig_t6 hg, ig_t7 hg, ig_t8 hg, ig_t9 hg, ig_t10 hg, ig_t11 hg, ig_t12 hg, ig_l1 hg, ig_l2 hg, ig_l3 hg, ig_l4 hg, ig_l5 hg, ig_l6 hg, ig_l7 hg, ig_l8 hg, ig_l9 hg, ig_l10 hg, ig_l12 hg, ig_r1 hg, ig_r2 hg, ig_r4 hg, ig_r5 hg, ig_r6 hg, ig_r7 hg, ig_r8 hg, ig_r9 hg, ig_r12 hg, ig_r14 hg, ig_r15 hg, ig_rw hg, iw_t0 hv, iw_t1 hv, iw_l1 hv, iw_r0 hv, rf_s, pushR_s, pushR_n, le4_0, le4_1, le4_2, le4_3, le4_4, isLong_n, isLong_i, isLong_r, isLong_f, if_true, if_false, not_true_eq_false, not_false_eq_true, isI_0, isI_9, isAr_0, isAr_1, isAr_2, isAr_9, okR_i, okR_0, okR_1, putI_0, putI_b0, putI_b1, nI_10, nI_00, Nat.reduceLT, Nat.reduceLeDiff, nI_add, upM_s, upI_s, pk_mul, nf_at, m41, c, b1, e13]
  · have e2 : V.1 = s 9 := by
      rcases w2 with ⟨h, _⟩ | ⟨_, h, _⟩
      · exact absurd h c
      · exact h
    have s9 := (i.2.2.2.2.1 c).2.2.2.1
    have eV := w1.2.1
    rw [e2] at eV
    by_cases c2 : W.1 < s 9
    · have hb : bst s W = isb s W (W.2.1 + 1) := if_pos (Or.inr c2)
      rw [hb]
      have z : nI W.1 < nI (s 9) := nI_lt c2 (by omega)
      refine ⟨M', fun Q => ?_, k1, k2⟩
      rw [k0]
      simp only [k60_0, k60_1, k60_4, k60_7, k60_8, k60_11, k60_12, k60_15, k60_18, k60_21, k60_22, k60_23, k60_26, k60_29, k60_30, k60_31, k60_34, k60_37, ig_t0 hg, ig_t1 hg, ig_t2 hg, ig_t3 hg, ig_t4 hg, ig_t5 hg, ig_t6 hg, ig_t7 hg, ig_t8 hg, ig_t9 hg, ig_t10 hg, ig_t11 hg, ig_t12 hg, ig_l1 hg, ig_l2 hg, ig_l3 hg, ig_l4 hg, ig_l5 hg, ig_l6 hg, ig_l7 hg, ig_l8 hg, ig_l9 hg, ig_l10 hg, ig_l12 hg, ig_r1 hg, ig_r2 hg, ig_r4 hg, ig_r5 hg, ig_r6 hg, ig_r7 hg, ig_r8 hg, ig_r9 hg, ig_r12 hg, ig_r14 hg, ig_r15 hg, ig_rw hg, iw_t0 hv, iw_t1 hv, iw_l1 hv, iw_r0 hv, rf_s, pushR_s, pushR_n, le4_0, le4_1, le4_2, le4_3, le4_4, isLong_n, isLong_i, isLong_r, isLong_f, if_true, if_false, not_true_eq_false, not_false_eq_true, isI_0, isI_9, isAr_0, isAr_1, isAr_2, isAr_9, okR_i, okR_0, okR_1, putI_0, putI_b0, putI_b1, nI_10, nI_00, Nat.reduceLT, Nat.reduceLeDiff, nI_add, upM_s, upI_s, pk_mul, nf_at, m41, c, rv.2.1, eV, z, b1, e13]
    · have hb : bst s W = s := if_neg (fun h => h.elim c c2)
      rw [hb]
      have z : ¬ nI W.1 < nI (s 9) := nI_nlt (by omega) (by omega)
      refine ⟨M, fun Q => ?_, R, FG_r⟩
      simp only [k60_0, k60_1, k60_4, k60_7, k60_8, k60_11, k60_12, k60_15, k60_18, k60_21, k60_22, k60_23, k60_26, k60_29, k60_30, k60_31, k60_34, k60_37, ig_t0 hg, ig_t1 hg, ig_t2 hg, ig_t3 hg, ig_t4 hg, ig_t5 hg, ig_t6 hg, ig_t7 hg, ig_t8 hg, ig_t9 hg, ig_t10 hg, ig_t11 hg, ig_t12 hg, ig_l1 hg, ig_l2 hg, ig_l3 hg, ig_l4 hg, ig_l5 hg, ig_l6 hg, ig_l7 hg, ig_l8 hg, ig_l9 hg, ig_l10 hg, ig_l12 hg, ig_r1 hg, ig_r2 hg, ig_r4 hg, ig_r5 hg, ig_r6 hg, ig_r7 hg, ig_r8 hg, ig_r9 hg, ig_r12 hg, ig_r14 hg, ig_r15 hg, ig_rw hg, iw_t0 hv, iw_t1 hv, iw_l1 hv, iw_r0 hv, rf_s, pushR_s, pushR_n, le4_0, le4_1, le4_2, le4_3, le4_4, isLong_n, isLong_i, isLong_r, isLong_f, if_true, if_false, not_true_eq_false, not_false_eq_true, isI_0, isI_9, isAr_0, isAr_1, isAr_2, isAr_9, okR_i, okR_0, okR_1, putI_0, putI_b0, putI_b1, nI_10, nI_00, Nat.reduceLT, Nat.reduceLeDiff, nI_add, upM_s, upI_s, pk_mul, nf_at, m41, c, rv.2.1, eV, z]
theorem c61 (hg : IsG σ g) (hv : IsW σ v) (R : RG M g s) (rv : RW M v W) (i : Inv s) (p1 : 1 ≤ W.1) (p2 : W.1 ≤ 180) (Q : Po) : wp 61 0 [some (.ref g), some (.ref v)] [] σ M Q = Q (some (.int (nI (s 15 / W.1)))) σ M := by
  have i2 := i.2.1
  unfold sOk at i2
  have z : ¬ nI W.1 < nI 1 := nI_nlt p1 (by omega)
  have z0 : ¬ nI W.1 = 0 := nI_ne0 (by omega) (by omega)
  have m := fun Q => c43 (Q := Q) hg R (k := 2) (by omega)
  have d := pk_div (a := s (13 + 2)) (d := W.1) (by show s 15 < _; omega) (by omega) (by omega)
  simp only [k61_0, k61_1, k61_4, k61_5, k61_8, k61_9, k61_12, k61_13, k61_14, k61_17, k61_18, k61_21, k61_22, ig_t0 hg, ig_t1 hg, ig_t2 hg, ig_t3 hg, ig_t4 hg, ig_t5 hg, ig_t6 hg, ig_t7 hg, ig_t8 hg, ig_t9 hg, ig_t10 hg, ig_t11 hg, ig_t12 hg, ig_l1 hg, ig_l2 hg, ig_l3 hg, ig_l4 hg, ig_l5 hg, ig_l6 hg, ig_l7 hg, ig_l8 hg, ig_l9 hg, ig_l10 hg, ig_l12 hg, ig_r1 hg, ig_r2 hg, ig_r4 hg, ig_r5 hg, ig_r6 hg, ig_r7 hg, ig_r8 hg, ig_r9 hg, ig_r12 hg, ig_r14 hg, ig_r15 hg, ig_rw hg, iw_t0 hv, iw_t1 hv, iw_l1 hv, iw_r0 hv, rf_s, pushR_s, pushR_n, le4_0, le4_1, le4_2, le4_3, le4_4, isLong_n, isLong_i, isLong_r, isLong_f, if_true, if_false, not_true_eq_false, not_false_eq_true, isI_0, isI_9, isAr_0, isAr_1, isAr_2, isAr_9, okR_i, okR_0, okR_1, putI_0, putI_b0, putI_b1, nI_10, nI_00, Nat.reduceLT, Nat.reduceLeDiff, nI_add, upM_s, upI_s, pk_mul, nf_at, rv.2.1, z, z0, m, d]
theorem c62 (hg : IsG σ g) (R : RG M g s) (i : Inv s) {l : Nat} (tl : sT σ l = 0) (ll : sL σ l = 16) (dl : l < g ∨ g + 12 < l) {L : Nat → Nat} (hL : ∀ k, k < 16 → M l k = nI (L k)) (bL : ∀ k, L k ≤ 10000) : ∃ M', (∀ Q, wp 62 0 [some (.ref g), some (.ref l), none, none, none] [] σ M Q = Q none σ M') ∧ RG M' g (mapT s (s 1) (fun k => clp s (evp s k + L k + onb s k))) ∧ FG M M' g := by
  have g1 := i.1.2.1
  have h10 := i.2.2.2.2.2
  have i2 := i.2.1
  unfold sOk at i2
  have m41 := fun Q => c41 (Q := Q) hg R i
  obtain ⟨V, w1, w2⟩ := rg_best R
  have ok := BW_ok i w2
  -- what lies on the best way
  have eV : ∀ k, bit V.2.2.1 k = if s 9 = 0 then 0 else bit (s 12) k := fun k => by
    rcases w2 with ⟨h, e⟩ | ⟨h, _, _, e, _⟩
    · rw [e, if_pos h]; exact bit_0
    · rw [if_neg h, e]
  have hob : (if s 9 = 0 then 0 else s 16 * (s 15 / s 9)) ≤ 8991 := by
    split
    · omega
    · have : s 15 / s 9 ≤ 999 := Nat.le_trans (Nat.div_le_self _ _) (by omega)
      exact Nat.mul_le_mul (by omega : s 16 ≤ 9) this
  have start : ∀ Q, wp 62 0 [some (.ref g), some (.ref l), none, none, none] [] σ M Q = wp 62 28 [some (.ref g), some (.ref l), some (.int (nI (if s 9 = 0 then 0 else s 16 * (s 15 / s 9)))), some (.int (nI 0)), none] [] σ M Q := fun Q => by
    by_cases c : s 9 = 0
    · simp only [k62_0, k62_1, k62_4, k62_7, k62_8, k62_9, k62_12, k62_13, k62_14, k62_17, k62_20, k62_21, k62_24, k62_25, k62_26, k62_27, ig_t0 hg, ig_t1 hg, ig_t2 hg, ig_t3 hg, ig_t4 hg, ig_t5 hg, ig_t6 hg, ig_t7 hg, ig_t8 hg, ig_t9 hg, ig_t10 hg, ig_t11 hg, ig_t12 hg, ig_l1 hg, ig_l2 hg, ig_l3 hg, ig_l4 hg, ig_l5 hg, ig_l6 hg, ig_l7 hg, ig_l8 hg, ig_l9 hg, ig_l10 hg, ig_l12 hg, ig_r1 hg, ig_r2 hg, ig_r4 hg, ig_r5 hg, ig_r6 hg, ig_r7 hg, ig_r8 hg, ig_r9 hg, ig_r12 hg, ig_r14 hg, ig_r15 hg, ig_rw hg, rf_s, pushR_s, pushR_n, le4_0, le4_1, le4_2, le4_3, le4_4, isLong_n, isLong_i, isLong_r, isLong_f, if_true, if_false, not_true_eq_false, not_false_eq_true, isI_0, isI_9, isAr_0, isAr_1, isAr_2, isAr_9, okR_i, okR_0, okR_1, putI_0, putI_b0, putI_b1, nI_10, nI_00, Nat.reduceLT, Nat.reduceLeDiff, nI_add, upM_s, upI_s, pk_mul, nf_at, m41, c]
    · have e2 : V.1 = s 9 := by
        rcases w2 with ⟨h, _⟩ | ⟨_, h, _⟩
        · exact absurd h c
        · exact h
      have m61 := fun Q => c61 (Q := Q) hg (ig_way hg) R w1 i (by have := ok.2.2.2.2.2; omega) ok.2.2.2.1
      rw [e2] at m61
      have m43 := fun Q => c43 (Q := Q) hg R (k := 3) (by omega)
      simp only [k62_0, k62_1, k62_4, k62_7, k62_8, k62_9, k62_12, k62_13, k62_14, k62_17, k62_20, k62_21, k62_24, k62_25, k62_26, k62_27, ig_t0 hg, ig_t1 hg, ig_t2 hg, ig_t3 hg, ig_t4 hg, ig_t5 hg, ig_t6 hg, ig_t7 hg, ig_t8 hg, ig_t9 hg, ig_t10 hg, ig_t11 hg, ig_t12 hg, ig_l1 hg, ig_l2 hg, ig_l3 hg, ig_l4 hg, ig_l5 hg, ig_l6 hg, ig_l7 hg, ig_l8 hg, ig_l9 hg, ig_l10 hg, ig_l12 hg, ig_r1 hg, ig_r2 hg, ig_r4 hg, ig_r5 hg, ig_r6 hg, ig_r7 hg, ig_r8 hg, ig_r9 hg, ig_r12 hg, ig_r14 hg, ig_r15 hg, ig_rw hg, rf_s, pushR_s, pushR_n, le4_0, le4_1, le4_2, le4_3, le4_4, isLong_n, isLong_i, isLong_r, isLong_f, if_true, if_false, not_true_eq_false, not_false_eq_true, isI_0, isI_9, isAr_0, isAr_1, isAr_2, isAr_9, okR_i, okR_0, okR_1, putI_0, putI_b0, putI_b1, nI_10, nI_00, Nat.reduceLT, Nat.reduceLeDiff, nI_add, upM_s, upI_s, pk_mul, nf_at, m41, c, m61, m43, Nat.reduceAdd]
  generalize hOB : (if s 9 = 0 then 0 else s 16 * (s 15 / s 9)) = ob at start hob
  have onE : ∀ k, onb s k = if bit V.2.2.1 k = 1 then ob else 0 := fun k => by
    rw [eV k]
    unfold onb
    by_cases c : s 9 = 0
    · rw [if_pos c, if_pos c, if_neg (by omega)]
    · rw [if_neg c, if_neg c, ← hOB, if_neg c]
  generalize hF : (fun k => clp s (evp s k + L k + onb s k)) = F
  have rB := cp_RG (f := F) R h10
  have ms : ∀ {n j : Nat}, j < 30 → mapT s n F j = s j := fun h => mapT_lo h
  refine ⟨_, fun Q => ?_, rB (s 1) g1, FG_u (by omega) (by omega)⟩
  rw [start]
  rw [show wp 62 28 [some (.ref g), some (.ref l), some (.int (nI ob)), some (.int (nI 0)), none] [] σ M Q = wp 62 28 [some (.ref g), some (.ref l), some (.int (nI ob)), some (.int (nI 0)), lastI (fun k => evp s k + L k + onb s k) 0] [] σ (upM M (g + 6) (cp 0 (fun k => nI (F k)) (M (g + 6)))) Q from by rw [cp_0, upM_self rfl]; rfl]
  refine (wp_up (n := s 1) (fun k => [some (.ref g), some (.ref l), some (.int (nI ob)), some (.int (nI k)), lastI (fun k => evp s k + L k + onb s k) k]) (fun k => upM M (g + 6) (cp k (fun k => nI (F k)) (M (g + 6)))) Q (fun k hk => ?_)).trans ?_
  · have e : nI k < nI (s 1) := nI_lt hk (by omega)
    have h16 : k < 16 := by omega
    have e2 : nI k < nI 16 := nI_lt h16 (by omega)
    have rk := rB k (by omega)
    have n1 := rg_nc rk
    rw [ms (by omega)] at n1
    have m1 := fun Q => c43 (Q := Q) hg rk (k := 1) (by omega)
    have m4 := fun Q => c43 (Q := Q) hg rk (k := 4) (by omega)
    have m5 := fun Q => c43 (Q := Q) hg rk (k := 5) (by omega)
    rw [ms (by omega)] at m1 m4 m5
    have old : cp k (fun k => nI (F k)) (M (g + 6)) k = nI (s (30 + 6 * k + 3)) := by
      unfold cp
      rw [if_neg (by omega)]
      exact rg_trl R k h16
    have eL : upM M (g + 6) (cp k (fun k => nI (F k)) (M (g + 6))) l k = nI (L k) := by
      rw [upM_n (by omega)]
      exact hL k h16
    have wk := RW_fr w1 (N := upM M (g + 6) (cp k (fun k => nI (F k)) (M (g + 6)))) (upM_n (by omega)) (upM_n (by omega))
    have m90 := fun Q => c90 (Q := Q) (ig_way hg) wk ok.2.1 h16
    have up := cp_up (f := fun k => nI (F k)) (g := M (g + 6)) (n := k)
    have pk := i.1.2.2 k hk
    unfold pOk at pk
    have hmul : s (30 + 6 * k + 3) * s 14 ≤ 9999 * 90 := Nat.mul_le_mul (by omega) (by omega)
    have hmul2 : s (30 + 6 * k + 3) * s 14 ≤ s (30 + 6 * k + 3) * 90 := Nat.mul_le_mul_left _ (by omega)
    have d1 := pk_div (a := s (30 + 6 * k + 3) * s 14) (d := 100) (by omega) (by omega) (by omega)
    have d2 := pk_sub (a := s (30 + 6 * k + 3)) (b := s (30 + 6 * k + 3) * s 14 / 100) (by omega)
    rw [← evp] at d2
    have z100 : ¬ nI 100 = 0 := by decide
    have z0 : ¬ nI 0 = nI 1 := by decide
    have hev : evp s k ≤ 9999 := by unfold evp; omega
    have hbL := bL k
    have hon : onb s k ≤ 8991 := by rw [onE k]; split <;> omega
    have hcl : ∀ T, T < 100000 → (if nI T < nI (s 17) then nI (s 17) else nI T) = nI (if T < s 17 then s 17 else T) := fun T hT => by
      by_cases c : T < s 17
      · rw [if_pos c, if_pos (nI_lt c (by omega))]
      · rw [if_neg c, if_neg (nI_nlt (by omega) (by omega))]
    have hcu : ∀ T, T < 100000 → (if nI (s 18) < nI (if T < s 17 then s 17 else T) then nI (s 18) else nI (if T < s 17 then s 17 else T)) = nI (clp s T) := fun T hT => by
      unfold clp
      by_cases c : T < s 17
      · rw [if_pos c, if_pos c, if_neg (nI_nlt (by omega) (by omega))]
      · rw [if_neg c, if_neg c]
        by_cases c2 : s 18 < T
        · rw [if_pos c2, if_pos (nI_lt c2 (by omega))]
        · rw [if_neg c2, if_neg (nI_nlt (by omega) (by omega))]
    have fk : F k = clp s (evp s k + L k + onb s k) := by rw [← hF]
    rw [fk] at up
    have h1 := hcl (evp s k + L k + onb s k) (by omega)
    have h2 := hcu (evp s k + L k + onb s k) (by omega)
    rw [k62_28]
    have on := onE k
    rcases (show bit V.2.2.1 k = 0 ∨ bit V.2.2.1 k = 1 by have := @bit_lt V.2.2.1 k; omega) with c | c
    · rw [c, if_neg (by omega)] at on
      rw [on] at h1 h2 up
      simp only [k62_29, k62_30, k62_33, k62_36, k62_37, k62_38, k62_41, k62_42, k62_45, k62_46, k62_47, k62_48, k62_51, k62_52, k62_55, k62_56, k62_57, k62_58, k62_61, k62_62, k62_63, k62_64, k62_65, k62_68, k62_69, k62_71, k62_72, k62_73, k62_74, k62_75, k62_76, k62_77, k62_79, k62_81, k62_82, k62_85, k62_86, k62_89, k62_92, k62_93, k62_96, k62_97, k62_98, k62_100, k62_101, k62_104, k62_105, k62_107, k62_108, k62_109, k62_112, k62_115, k62_116, k62_117, k62_120, k62_123, k62_124, k62_127, ig_t0 hg, ig_t1 hg, ig_t2 hg, ig_t3 hg, ig_t4 hg, ig_t5 hg, ig_t6 hg, ig_t7 hg, ig_t8 hg, ig_t9 hg, ig_t10 hg, ig_t11 hg, ig_t12 hg, ig_l1 hg, ig_l2 hg, ig_l3 hg, ig_l4 hg, ig_l5 hg, ig_l6 hg, ig_l7 hg, ig_l8 hg, ig_l9 hg, ig_l10 hg, ig_l12 hg, ig_r1 hg, ig_r2 hg, ig_r4 hg, ig_r5 hg, ig_r6 hg, ig_r7 hg, ig_r8 hg, ig_r9 hg, ig_r12 hg, ig_r14 hg, ig_r15 hg, ig_rw hg, rf_s, pushR_s, pushR_n, le4_0, le4_1, le4_2, le4_3, le4_4, isLong_n, isLong_i, isLong_r, isLong_f, if_true, if_false, not_true_eq_false, not_false_eq_true, isI_0, isI_9, isAr_0, isAr_1, isAr_2, isAr_9, okR_i, okR_0, okR_1, putI_0, putI_b0, putI_b1, nI_10, nI_00, Nat.reduceLT, Nat.reduceLeDiff, nI_add, upM_s, upI_s, pk_mul, nf_at, n1, e, e2, h16, tl, ll, old, Nat.reduceAdd, m1, m4, m5, d1, d2, z100, eL, m90, c, on, h1, h2, upM_up, up, lastI]
    · rw [c, if_pos rfl] at on
      rw [on] at h1 h2 up
      simp only [k62_29, k62_30, k62_33, k62_36, k62_37, k62_38, k62_41, k62_42, k62_45, k62_46, k62_47, k62_48, k62_51, k62_52, k62_55, k62_56, k62_57, k62_58, k62_61, k62_62, k62_63, k62_64, k62_65, k62_68, k62_69, k62_71, k62_72, k62_73, k62_74, k62_75, k62_76, k62_77, k62_79, k62_81, k62_82, k62_85, k62_86, k62_89, k62_92, k62_93, k62_96, k62_97, k62_98, k62_100, k62_101, k62_104, k62_105, k62_107, k62_108, k62_109, k62_112, k62_115, k62_116, k62_117, k62_120, k62_123, k62_124, k62_127, ig_t0 hg, ig_t1 hg, ig_t2 hg, ig_t3 hg, ig_t4 hg, ig_t5 hg, ig_t6 hg, ig_t7 hg, ig_t8 hg, ig_t9 hg, ig_t10 hg, ig_t11 hg, ig_t12 hg, ig_l1 hg, ig_l2 hg, ig_l3 hg, ig_l4 hg, ig_l5 hg, ig_l6 hg, ig_l7 hg, ig_l8 hg, ig_l9 hg, ig_l10 hg, ig_l12 hg, ig_r1 hg, ig_r2 hg, ig_r4 hg, ig_r5 hg, ig_r6 hg, ig_r7 hg, ig_r8 hg, ig_r9 hg, ig_r12 hg, ig_r14 hg, ig_r15 hg, ig_rw hg, rf_s, pushR_s, pushR_n, le4_0, le4_1, le4_2, le4_3, le4_4, isLong_n, isLong_i, isLong_r, isLong_f, if_true, if_false, not_true_eq_false, not_false_eq_true, isI_0, isI_9, isAr_0, isAr_1, isAr_2, isAr_9, okR_i, okR_0, okR_1, putI_0, putI_b0, putI_b1, nI_10, nI_00, Nat.reduceLT, Nat.reduceLeDiff, nI_add, upM_s, upI_s, pk_mul, nf_at, n1, e, e2, h16, tl, ll, old, Nat.reduceAdd, m1, m4, m5, d1, d2, z100, eL, m90, c, on, h1, h2, upM_up, up, lastI]
  · have e : ¬ nI (s 1) < nI (s 1) := nI_nlt (Nat.le_refl _) (by omega)
    have n1 := rg_nc (rB (s 1) g1)
    rw [ms (by omega)] at n1
    rw [k62_28]
    simp only [k62_29, k62_30, k62_33, k62_36, k62_37, k62_38, k62_41, k62_42, k62_45, k62_46, k62_47, k62_48, k62_51, k62_52, k62_55, k62_56, k62_57, k62_58, k62_61, k62_62, k62_63, k62_64, k62_65, k62_68, k62_69, k62_71, k62_72, k62_73, k62_74, k62_75, k62_76, k62_77, k62_79, k62_81, k62_82, k62_85, k62_86, k62_89, k62_92, k62_93, k62_96, k62_97, k62_98, k62_100, k62_101, k62_104, k62_105, k62_107, k62_108, k62_109, k62_112, k62_115, k62_116, k62_117, k62_120, k62_123, k62_124, k62_127, k62_130, ig_t0 hg, ig_t1 hg, ig_t2 hg, ig_t3 hg, ig_t4 hg, ig_t5 hg, ig_t6 hg, ig_t7 hg, ig_t8 hg, ig_t9 hg, ig_t10 hg, ig_t11 hg, ig_t12 hg, ig_l1 hg, ig_l2 hg, ig_l3 hg, ig_l4 hg, ig_l5 hg, ig_l6 hg, ig_l7 hg, ig_l8 hg, ig_l9 hg, ig_l10 hg, ig_l12 hg, ig_r1 hg, ig_r2 hg, ig_r4 hg, ig_r5 hg, ig_r6 hg, ig_r7 hg, ig_r8 hg, ig_r9 hg, ig_r12 hg, ig_r14 hg, ig_r15 hg, ig_rw hg, rf_s, pushR_s, pushR_n, le4_0, le4_1, le4_2, le4_3, le4_4, isLong_n, isLong_i, isLong_r, isLong_f, if_true, if_false, not_true_eq_false, not_false_eq_true, isI_0, isI_9, isAr_0, isAr_1, isAr_2, isAr_9, okR_i, okR_0, okR_1, putI_0, putI_b0, putI_b1, nI_10, nI_00, Nat.reduceLT, Nat.reduceLeDiff, nI_add, upM_s, upI_s, pk_mul, nf_at, n1, e]
end GND
