section REA
variable {L : Nat} {xs : Nat → Int32} {σ : Sg} {M : Mem} {s : Nat → Nat} {H : Nat → Nat → Nat} {n len B : Nat} {T : Nat → Nat}
theorem tmn {w : Nat} (hw : w < 12) (l0 l1 l2 l3 l4 l5 l7 l8 l9 : Option Value) (σ : Sg) (M : Mem) (Q : Po) : wp 100 47 [l0, l1, l2, l3, l4, l5, some (.int (nI w)), l7, l8, l9] [] σ M Q = wp 100 70 [l0, l1, l2, l3, l4, l5, some (.int (nI w)), some (.int (nI (mny w))), l8, l9] [] σ M Q := by
  unfold mny
  by_cases c1 : w < 3
  · have y1 : nI w < nI 3 := nI_lt c1 (by omega)
    rw [if_pos c1]
    simp only [k100_47, k100_49, k100_50, k100_53, k100_54, k100_57, k100_59, k100_60, k100_63, k100_64, k100_67, k100_68, rf_s, pushR_s, pushR_n, le4_0, le4_1, le4_2, le4_3, le4_4, isLong_n, isLong_i, isLong_r, isLong_f, if_true, if_false, not_true_eq_false, not_false_eq_true, isI_0, isI_9, isAr_0, isAr_1, isAr_2, isAr_9, okR_i, okR_0, okR_1, putI_0, putI_b0, putI_b1, nI_10, nI_00, Nat.reduceLT, Nat.reduceLeDiff, nI_add, upM_s, upI_s, pk_mul, nf_at, y1]
  · have y1 : ¬ nI w < nI 3 := nI_nlt (by omega) (by omega)
    rw [if_neg c1]
    by_cases c2 : w = 3
    · have y2 : (nI w = nI 3) = True := eq_true (congrArg nI c2)
      rw [if_pos c2]
      simp only [k100_47, k100_49, k100_50, k100_53, k100_54, k100_57, k100_59, k100_60, k100_63, k100_64, k100_67, k100_68, rf_s, pushR_s, pushR_n, le4_0, le4_1, le4_2, le4_3, le4_4, isLong_n, isLong_i, isLong_r, isLong_f, if_true, if_false, not_true_eq_false, not_false_eq_true, isI_0, isI_9, isAr_0, isAr_1, isAr_2, isAr_9, okR_i, okR_0, okR_1, putI_0, putI_b0, putI_b1, nI_10, nI_00, Nat.reduceLT, Nat.reduceLeDiff, nI_add, upM_s, upI_s, pk_mul, nf_at, y1, y2]
    · have y2 : ¬ nI w = nI 3 := ne_n (by omega) (by omega) c2
      rw [if_neg c2]
      simp only [k100_47, k100_49, k100_50, k100_53, k100_54, k100_57, k100_59, k100_60, k100_63, k100_64, k100_67, k100_68, rf_s, pushR_s, pushR_n, le4_0, le4_1, le4_2, le4_3, le4_4, isLong_n, isLong_i, isLong_r, isLong_f, if_true, if_false, not_true_eq_false, not_false_eq_true, isI_0, isI_9, isAr_0, isAr_1, isAr_2, isAr_9, okR_i, okR_0, okR_1, putI_0, putI_b0, putI_b1, nI_10, nI_00, Nat.reduceLT, Nat.reduceLeDiff, nI_add, upM_s, upI_s, pk_mul, nf_at, y1, y2]
/-- the orders, one after the other -/
theorem tyo (K : Lw L xs σ M s H n 0 T B) (x : Int32) {m : Nat} (hm : m ≤ 4) : ∀ k, k ≤ m → ∃ M' len' T' l5 l6 l7 l8 l9, (∀ Q, wp 100 22 [some (.ref 0), some (.int x), some (.int (nI m)), some (.int (nI 1)), some (.int (nI 0)), none, none, none, none, none] [] σ M Q = wp 100 22 [some (.ref 0), some (.int x), some (.int (nI m)), some (.int (nI 1)), some (.int (nI k)), l5, l6, l7, l8, l9] [] σ M' Q) ∧ Lw L xs σ M' s H n len' T' B ∧ len' ≤ 12 * k
  | 0, _ => ⟨M, 0, T, none, none, none, none, none, fun _ => rfl, K, Nat.le_refl _⟩
  | k + 1, hk => by
    obtain ⟨M1, len1, T1, l5, l6, l7, l8, l9, a1, K1, b1⟩ := tyo K x hm k (by omega)
    have t0 := K.t0
    have lt : nI k < nI m := nI_lt (by omega) (by omega)
    have l12 := fun Q => l95 (v := x >>> (nI (3 + 5 * k) &&& 31)) (m := 12) (by omega) (by omega) (σ := σ) (M := M1) Q
    have hw := lw_lt (v := x >>> (nI (3 + 5 * k) &&& 31)) (m := 12) (by omega)
    obtain ⟨y, ey⟩ : ∃ y, x >>> (nI (3 + 5 * k) &&& 31) = y := ⟨_, rfl⟩
    rw [ey] at l12 hw
    generalize lw y 12 = w at *
    have mn := fun l8 l9 Q => tmn hw (some (.ref 0)) (some (.int x)) (some (.int (nI m))) (some (.int (nI 1))) (some (.int (nI k))) (some (.int y)) l7 l8 l9 σ M1 Q
    obtain ⟨c, c1, c2, a2⟩ := tch x hw (some (.int (nI m))) (some (.int (nI 1))) (some (.int (nI k))) (some (.int y)) (some (.int (nI (mny w)))) l8 l9 σ M1
    obtain ⟨M2, a3, K2⟩ := e20 K1 (by omega) c1 c2
    have p1 := pos_n (a := len1) (by omega)
    have nc : nch w = 5 ∧ w = 3 ∨ nch w = 3 ∧ w ≠ 3 := by unfold nch; split <;> omega
    have nm : mny w * nch w ≤ 10 := by
      unfold mny
      rcases nc with ⟨e, c⟩ | ⟨e, c⟩
      · rw [e, c]; decide
      · rw [e]; split <;> (try split) <;> omega
    obtain ⟨M3, len3, T3, l9', a4, K3, b3⟩ := tln (xs := xs) (L := L) (σ := σ) (s := s) (H := H) (n := n) (B := B) x y hw (some (.int (nI m))) (some (.int (nI k))) rfl (mny w) (len1 + 1) _ M2 l9 (Nat.le_refl _) K2 (by omega)
    rw [Nat.sub_self] at a4
    have l5' := fun Q => l95 (v := x >>> (nI 26 &&& 31)) (m := 5) (by omega) (by omega) (σ := σ) (M := M3) Q
    have q5 := lw_lt (v := x >>> (nI 26 &&& 31)) (m := 5) (by omega)
    generalize lw (x >>> (nI 26 &&& 31)) 5 = q at *
    have pos : ∀ Q, wp 100 22 [some (.ref 0), some (.int x), some (.int (nI m)), some (.int (nI 1)), some (.int (nI 0)), none, none, none, none, none] [] σ M Q = wp 100 304 [some (.ref 0), some (.int x), some (.int (nI m)), some (.int (nI 1)), some (.int (nI k)), some (.int y), some (.int (nI w)), some (.int (nI (mny w))), some (.int (nI (mny w))), l9'] [] σ M3 Q := fun Q => by
      rw [a1, k100_22]
      simp only [k100_24, k100_25, k100_28, k100_29, k100_30, k100_31, k100_33, k100_34, k100_35, k100_36, k100_38, k100_40, k100_42, k100_45, rf_s, pushR_s, pushR_n, le4_0, le4_1, le4_2, le4_3, le4_4, isLong_n, isLong_i, isLong_r, isLong_f, if_true, if_false, not_true_eq_false, not_false_eq_true, isI_0, isI_9, isAr_0, isAr_1, isAr_2, isAr_9, okR_i, okR_0, okR_1, putI_0, putI_b0, putI_b1, nI_10, nI_00, Nat.reduceLT, Nat.reduceLeDiff, nI_add, upM_s, upI_s, pk_mul, nf_at, t0, lt, ey, l12]
      rw [mn]
      simp only [k100_70, k100_71, rf_s, pushR_s, pushR_n, le4_0, le4_1, le4_2, le4_3, le4_4, isLong_n, isLong_i, isLong_r, isLong_f, if_true, if_false, not_true_eq_false, not_false_eq_true, isI_0, isI_9, isAr_0, isAr_1, isAr_2, isAr_9, okR_i, okR_0, okR_1, putI_0, putI_b0, putI_b1, nI_10, nI_00, Nat.reduceLT, Nat.reduceLeDiff, nI_add, upM_s, upI_s, pk_mul, nf_at]
      rw [a2]
      simp only [k100_152, k100_155, k100_158, k100_159, k100_162, k100_163, k100_164, k100_165, rf_s, pushR_s, pushR_n, le4_0, le4_1, le4_2, le4_3, le4_4, isLong_n, isLong_i, isLong_r, isLong_f, if_true, if_false, not_true_eq_false, not_false_eq_true, isI_0, isI_9, isAr_0, isAr_1, isAr_2, isAr_9, okR_i, okR_0, okR_1, putI_0, putI_b0, putI_b1, nI_10, nI_00, Nat.reduceLT, Nat.reduceLeDiff, nI_add, upM_s, upI_s, pk_mul, nf_at, t0, a3, p1]
      exact a4 Q
    obtain ⟨M4, a5, K4⟩ := e20 K3 (c := 59) (by omega) (by omega) (by omega)
    have p3 := pos_n (a := len3) (by omega)
    have sb : nI m - nI 1 = nI (m - 1) := pk_sub (by omega)
    by_cases c0 : q = 0 ∧ k = m - 1
    · have z : (nI q = 0) = True := eq_true (by rw [c0.1]; exact nI_0)
      have z2 : (nI k = nI (m - 1)) = True := eq_true (congrArg nI c0.2)
      refine ⟨M3, len3, T3, some (.int y), some (.int (nI w)), some (.int (nI (mny w))), some (.int (nI (mny w))), l9', fun Q => ?_, K3, by omega⟩
      rw [pos]
      simp only [k100_304, k100_305, k100_308, k100_309, k100_311, k100_312, k100_313, k100_316, k100_319, k100_321, k100_322, k100_323, k100_324, k100_327, k100_328, k100_330, k100_333, k100_336, k100_337, k100_340, k100_341, k100_342, k100_345, rf_s, pushR_s, pushR_n, le4_0, le4_1, le4_2, le4_3, le4_4, isLong_n, isLong_i, isLong_r, isLong_f, if_true, if_false, not_true_eq_false, not_false_eq_true, isI_0, isI_9, isAr_0, isAr_1, isAr_2, isAr_9, okR_i, okR_0, okR_1, putI_0, putI_b0, putI_b1, nI_10, nI_00, Nat.reduceLT, Nat.reduceLeDiff, nI_add, upM_s, upI_s, pk_mul, nf_at, t0, l5', z, z2, sb]
    · refine ⟨M4, len3 + 1, _, some (.int y), some (.int (nI w)), some (.int (nI (mny w))), some (.int (nI (mny w))), l9', fun Q => ?_, K4, by omega⟩
      rw [pos]
      by_cases c3 : q = 0
      · have z : (nI q = 0) = True := eq_true (by rw [c3]; exact nI_0)
        have z2 : ¬ nI k = nI (m - 1) := ne_n (by omega) (by omega) (fun e => c0 ⟨c3, e⟩)
        simp only [k100_304, k100_305, k100_308, k100_309, k100_311, k100_312, k100_313, k100_316, k100_319, k100_321, k100_322, k100_323, k100_324, k100_327, k100_328, k100_330, k100_333, k100_336, k100_337, k100_340, k100_341, k100_342, k100_345, rf_s, pushR_s, pushR_n, le4_0, le4_1, le4_2, le4_3, le4_4, isLong_n, isLong_i, isLong_r, isLong_f, if_true, if_false, not_true_eq_false, not_false_eq_true, isI_0, isI_9, isAr_0, isAr_1, isAr_2, isAr_9, okR_i, okR_0, okR_1, putI_0, putI_b0, putI_b1, nI_10, nI_00, Nat.reduceLT, Nat.reduceLeDiff, nI_add, upM_s, upI_s, pk_mul, nf_at, t0, l5', z, z2, sb, a5, p3]
      · have z : ¬ nI q = 0 := nI_ne0 (by omega) (by omega)
        simp only [k100_304, k100_305, k100_308, k100_309, k100_311, k100_312, k100_313, k100_316, k100_319, k100_321, k100_322, k100_323, k100_324, k100_327, k100_328, k100_330, k100_333, k100_336, k100_337, k100_340, k100_341, k100_342, k100_345, rf_s, pushR_s, pushR_n, le4_0, le4_1, le4_2, le4_3, le4_4, isLong_n, isLong_i, isLong_r, isLong_f, if_true, if_false, not_true_eq_false, not_false_eq_true, isI_0, isI_9, isAr_0, isAr_1, isAr_2, isAr_9, okR_i, okR_0, okR_1, putI_0, putI_b0, putI_b1, nI_10, nI_00, Nat.reduceLT, Nat.reduceLeDiff, nI_add, upM_s, upI_s, pk_mul, nf_at, t0, l5', z, sb, a5, p3]
theorem l100 (K : Lw L xs σ M s H n len T B) (x : Int32) : ∃ M' len' T', (∀ Q, wp 100 0 [some (.ref 0), some (.int x), none, none, none, none, none, none, none, none] [] σ M Q = Q (some (.int (nI 1))) σ M') ∧ Lw L xs σ M' s H n len' T' B := by
  have t0 := K.t0
  have l60 := K.l60
  have l5 := fun Q => l95 (v := x) (m := 5) (by omega) (by omega) (σ := σ) (M := M) Q
  have b5 := lw_lt (v := x) (m := 5) (by omega)
  generalize lw x 5 = m at *
  obtain ⟨M1, a1, K1⟩ := e21 K
  obtain ⟨M2, len2, T2, l5', l6, l7, l8, l9, a2, K2, b2⟩ := tyo K1 x (m := m) (by omega) m (Nat.le_refl _)
  have z : ¬ nI len < 0 := nI_pos (by omega)
  have lt : ¬ nI m < nI m := nI_nlt (Nat.le_refl _) (by omega)
  refine ⟨M2, len2, T2, fun Q => ?_, K2⟩
  simp only [k100_0, k100_1, k100_2, k100_5, k100_6, k100_7, k100_10, k100_13, k100_14, k100_17, k100_18, k100_19, k100_20, rf_s, pushR_s, pushR_n, le4_0, le4_1, le4_2, le4_3, le4_4, isLong_n, isLong_i, isLong_r, isLong_f, if_true, if_false, not_true_eq_false, not_false_eq_true, isI_0, isI_9, isAr_0, isAr_1, isAr_2, isAr_9, okR_i, okR_0, okR_1, putI_0, putI_b0, putI_b1, nI_10, nI_00, Nat.reduceLT, Nat.reduceLeDiff, nI_add, upM_s, upI_s, pk_mul, nf_at, t0, l5, a1, z]
  rw [a2, k100_22]
  simp only [k100_24, k100_25, k100_348, k100_349, rf_s, pushR_s, pushR_n, le4_0, le4_1, le4_2, le4_3, le4_4, isLong_n, isLong_i, isLong_r, isLong_f, if_true, if_false, not_true_eq_false, not_false_eq_true, isI_0, isI_9, isAr_0, isAr_1, isAr_2, isAr_9, okR_i, okR_0, okR_1, putI_0, putI_b0, putI_b1, nI_10, nI_00, Nat.reduceLT, Nat.reduceLeDiff, nI_add, upM_s, upI_s, pk_mul, nf_at, lt]
/-- what an act does to the state and its history -/
def Mv (s : Nat → Nat) (H : Nat → Nat → Nat) (n : Nat) (s' : Nat → Nat) (H' : Nat → Nat → Nat) (n' : Nat) : Prop := (s' = s ∧ H' = H ∧ n' = n) ∨ (H' = pH H n s ∧ n' = pN n)
theorem er_neg {r : Int32} (h : er r) (h2 : ¬ r = -1000000004) : r < 0 ∧ -1000000004 < r := by
  rcases h with h | h | h | h
  · subst h; decide
  · subst h; decide
  · subst h; decide
  · exact absurd h h2
theorem l101 (K : Lw L xs σ M s H n len T B) : ∃ τ M' s' H' n', (∀ Q, wp 101 0 [some (.ref 0), none, none, none, none, none, none, none] [] σ M Q = Q (some (.int (nI 1))) τ M') ∧ Lw L xs τ M' s' H' n' len T (B + 400) ∧ Mv s H n s' H' n' := by
  have t0 := K.t0
  have l60 := K.l60
  have i := K.inv
  obtain ⟨u, t, hR⟩ := Run_ex (T := T) (len := len) 61 s 0 0 i (Nat.zero_le _) (by omega)
  obtain ⟨r1, r2, r3, r4, r5, r6⟩ := Run_p 61 s 0 0 u t i K.ex K.pj (Nat.zero_le _) (Nat.le_refl _) hR
  have iv := Run_inv 61 s 0 0 u t i hR
  obtain ⟨M1, a1, K1⟩ := e22 K hR (w := 0) (by omega)
  obtain ⟨M2, a2, K2⟩ := e22 K1 hR (w := 1) (by omega)
  obtain ⟨M3, a3, K3⟩ := e22 K2 hR (w := 2) (by omega)
  obtain ⟨τ, M4, a4, k1, k2⟩ := e23 K3 hR
  have y0 : ((-1000000004 : Int32) < 0) = True := eq_true (by decide)
  by_cases c : u.1 = 0
  · have K4 := k2 c
    have t4 := K4.t0
    rw [show fV u 0 = -1000000004 from if_pos c] at a1
    rw [show fV u 1 = -1000000004 from if_pos c] at a2
    rw [show fV u 2 = -1000000004 from if_pos c] at a3
    rw [if_pos c] at a4
    have d := r3 c
    have z1 : ¬ nI u.2.2.2 < 0 := nI_pos (by omega)
    have z2 : ¬ nI len < nI (3 * u.2.2.2) := nI_nlt (by omega) (by omega)
    refine ⟨τ, M4, t, pH H n s, pN n, fun Q => ?_, K4, Or.inr ⟨rfl, rfl⟩⟩
    simp only [k101_0, k101_1, k101_2, k101_5, k101_6, k101_7, k101_8, k101_11, k101_12, k101_13, k101_14, k101_17, k101_18, k101_19, k101_21, k101_24, k101_26, k101_27, k101_30, k101_32, k101_33, k101_35, k101_38, k101_39, k101_41, k101_44, k101_45, k101_47, k101_50, k101_52, k101_55, k101_56, k101_58, k101_59, k101_61, k101_64, k101_65, k101_68, k101_69, k101_71, k101_72, k101_75, k101_76, k101_78, k101_81, k101_83, k101_85, k101_88, k101_89, k101_90, k101_93, k101_94, k101_97, k101_98, k101_100, k101_101, k101_102, k101_105, k101_106, k101_107, k101_110, k101_111, k101_114, k101_115, k101_117, k101_120, k101_121, k101_124, k101_125, k101_127, k101_129, k101_132, k101_134, k101_137, k101_138, k101_140, k101_143, k101_145, k101_148, k101_149, k101_152, k101_153, rf_s, pushR_s, pushR_n, le4_0, le4_1, le4_2, le4_3, le4_4, isLong_n, isLong_i, isLong_r, isLong_f, if_true, if_false, not_true_eq_false, not_false_eq_true, isI_0, isI_9, isAr_0, isAr_1, isAr_2, isAr_9, okR_i, okR_0, okR_1, putI_0, putI_b0, putI_b1, nI_10, nI_00, Nat.reduceLT, Nat.reduceLeDiff, nI_add, upM_s, upI_s, pk_mul, nf_at, t0, t4, a1, a2, a3, a4, cnt_13 K3, cnt_13 K4, z1, z2, y0, eq_self]
  · have K4 := k1 c
    have t4 := K4.t0
    rw [show fV u 0 = nI u.2.1 from by unfold fV; rw [if_neg c, if_pos rfl]] at a1
    rw [show fV u 1 = nI u.1 from by unfold fV; rw [if_neg c, if_neg (by omega), if_pos rfl]] at a2
    rw [show fV u 2 = u.2.2.1 from by unfold fV; rw [if_neg c, if_neg (by omega), if_neg (by omega)]] at a3
    rw [if_neg c] at a4
    have d := r4 c
    have z1 : ¬ nI u.2.1 = -1000000004 := ne_nf (by omega)
    have z2 : ¬ nI u.2.1 < 0 := nI_pos (by omega)
    have z3 : nI u.2.1 < nI len := nI_lt d (by omega)
    have z4 : nI len - nI u.2.1 = nI (len - u.2.1) := pk_sub (by omega)
    refine ⟨τ, M4, s, H, n, fun Q => ?_, K4, Or.inl ⟨rfl, rfl, rfl⟩⟩
    rcases (show u.1 = 1 ∨ u.1 = 2 by omega) with e | e
    · obtain ⟨q, q1, q2⟩ := r5 e
      rw [q2] at a3
      rw [e] at a2
      have x1 : ¬ nI q < 0 := nI_pos (by omega)
      have x2 : ¬ nI (len - u.2.1) < nI q := nI_nlt (by omega) (by omega)
      simp only [k101_0, k101_1, k101_2, k101_5, k101_6, k101_7, k101_8, k101_11, k101_12, k101_13, k101_14, k101_17, k101_18, k101_19, k101_21, k101_24, k101_26, k101_27, k101_30, k101_32, k101_33, k101_35, k101_38, k101_39, k101_41, k101_44, k101_45, k101_47, k101_50, k101_52, k101_55, k101_56, k101_58, k101_59, k101_61, k101_64, k101_65, k101_68, k101_69, k101_71, k101_72, k101_75, k101_76, k101_78, k101_81, k101_83, k101_85, k101_88, k101_89, k101_90, k101_93, k101_94, k101_97, k101_98, k101_100, k101_101, k101_102, k101_105, k101_106, k101_107, k101_110, k101_111, k101_114, k101_115, k101_117, k101_120, k101_121, k101_124, k101_125, k101_127, k101_129, k101_132, k101_134, k101_137, k101_138, k101_140, k101_143, k101_145, k101_148, k101_149, k101_152, k101_153, rf_s, pushR_s, pushR_n, le4_0, le4_1, le4_2, le4_3, le4_4, isLong_n, isLong_i, isLong_r, isLong_f, if_true, if_false, not_true_eq_false, not_false_eq_true, isI_0, isI_9, isAr_0, isAr_1, isAr_2, isAr_9, okR_i, okR_0, okR_1, putI_0, putI_b0, putI_b1, nI_10, nI_00, Nat.reduceLT, Nat.reduceLeDiff, nI_add, upM_s, upI_s, pk_mul, nf_at, t0, t4, a1, a2, a3, a4, cnt_13 K3, cnt_13 K4, z1, z2, z3, z4, x1, x2, eq_self]
    · obtain ⟨q1, q2⟩ := r6 e
      obtain ⟨x1, x2⟩ := er_neg q1 q2
      rw [e] at a2
      have x3 : ¬ nI 2 = nI 1 := ne_n (by omega) (by omega) (by omega)
      simp only [k101_0, k101_1, k101_2, k101_5, k101_6, k101_7, k101_8, k101_11, k101_12, k101_13, k101_14, k101_17, k101_18, k101_19, k101_21, k101_24, k101_26, k101_27, k101_30, k101_32, k101_33, k101_35, k101_38, k101_39, k101_41, k101_44, k101_45, k101_47, k101_50, k101_52, k101_55, k101_56, k101_58, k101_59, k101_61, k101_64, k101_65, k101_68, k101_69, k101_71, k101_72, k101_75, k101_76, k101_78, k101_81, k101_83, k101_85, k101_88, k101_89, k101_90, k101_93, k101_94, k101_97, k101_98, k101_100, k101_101, k101_102, k101_105, k101_106, k101_107, k101_110, k101_111, k101_114, k101_115, k101_117, k101_120, k101_121, k101_124, k101_125, k101_127, k101_129, k101_132, k101_134, k101_137, k101_138, k101_140, k101_143, k101_145, k101_148, k101_149, k101_152, k101_153, rf_s, pushR_s, pushR_n, le4_0, le4_1, le4_2, le4_3, le4_4, isLong_n, isLong_i, isLong_r, isLong_f, if_true, if_false, not_true_eq_false, not_false_eq_true, isI_0, isI_9, isAr_0, isAr_1, isAr_2, isAr_9, okR_i, okR_0, okR_1, putI_0, putI_b0, putI_b1, nI_10, nI_00, Nat.reduceLT, Nat.reduceLeDiff, nI_add, upM_s, upI_s, pk_mul, nf_at, t0, t4, a1, a2, a3, a4, cnt_13 K3, cnt_13 K4, z1, z2, z3, z4, x1, x2, x3, eq_self]
end REA
