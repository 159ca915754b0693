def lapN (s : Nat → Nat) : Nat → (Nat → Nat)
  | 0 => s
  | n + 1 => lapS (lapN s n)
theorem antS_4 {s : Nat → Nat} : s 4 ≤ antS s 4 ∧ antS s 4 ≤ s 4 + 1 := by
  have h : ∀ {S : Nat → Nat} {h y : Nat}, fin S h y 4 = if y = 0 then S 4 + 1 else S 4 := fun {S h y} => by
    unfold fin
    rw [if_neg (by omega), if_neg (by omega)]
    by_cases c : y = 0
    · rw [if_pos c, if_pos (by omega)]
    · rw [if_neg c, if_neg (by omega)]
  have e : antS s 4 = _ := h
  rw [mk_lo (by omega) (by omega)] at e
  rw [e]
  split <;> omega
theorem stp_4 {s : Nat → Nat} (i : Inv s) (h2 : 2 ≤ s 0) : s 4 ≤ stp s 4 ∧ stp s 4 ≤ s 4 + 1 := by
  have h := @antS_4 s
  have w := wlk_ok i h2
  have w1 := w.2.1.1
  unfold stp bst
  split
  · split
    · rw [isb_n (by omega) (by omega)]; exact h
    · exact h
  · exact h
theorem lapA_4 {s : Nat → Nat} (i : Inv s) (h2 : 2 ≤ s 0) : ∀ n, s 4 ≤ lapA s n 4 ∧ lapA s n 4 ≤ s 4 + n
  | 0 => ⟨Nat.le_refl _, Nat.le_refl _⟩
  | n + 1 => by
    have ih := lapA_4 i h2 n
    obtain ⟨a, b⟩ := lapA_ok i h2 n
    have h := stp_4 a (by rw [b.1.1]; exact h2)
    have e : lapA s (n + 1) 4 = stp (lapA s n) 4 := rfl
    omega
theorem lapS_ok {s : Nat → Nat} (i : Inv s) (h2 : 2 ≤ s 0) : Inv (lapS s) ∧ lapS s 0 = s 0 ∧ s 4 ≤ lapS s 4 ∧ lapS s 4 ≤ s 4 + 5 := by
  obtain ⟨a, b⟩ := lapA_ok i h2 (s 13)
  have h4 := lapA_4 i h2 (s 13)
  obtain ⟨e1, e2, e3, e4, e5⟩ := endS_ok (L := fun k => lapL s k (s 13)) a
  have i2 := i.2.1
  unfold sOk at i2
  unfold lapS
  exact ⟨e1, by rw [e2, b.1.1], by omega, by omega⟩
theorem lapN_ok {s : Nat → Nat} (i : Inv s) (h2 : 2 ≤ s 0) : ∀ n, Inv (lapN s n) ∧ lapN s n 0 = s 0 ∧ s 4 ≤ lapN s n 4 ∧ lapN s n 4 ≤ s 4 + 5 * n
  | 0 => ⟨i, rfl, Nat.le_refl _, Nat.le_refl _⟩
  | n + 1 => by
    obtain ⟨a, b, c, d⟩ := lapN_ok i h2 n
    obtain ⟨a2, b2, c2, d2⟩ := lapS_ok a (by omega)
    exact ⟨a2, b2.trans b, Nat.le_trans c c2, show lapS (lapN s n) 4 ≤ s 4 + 5 * (n + 1) by omega⟩
theorem m119A {σ : Sg} {M : Mem} (hm : IsM σ) {s : Nat → Nat} (hs : M 107 = nf s) (i : Inv s) (h2 : 2 ≤ s 0) {N : Nat} (hN : N < 1000) : ∀ n, n ≤ N → ∃ M' : Mem, (∀ Q, wp 119 2 [some (.ref 106), some (.int (nI N)), some (.int (nI 0))] [] σ M Q = wp 119 2 [some (.ref 106), some (.int (nI N)), some (.int (nI n))] [] σ M' Q) ∧ M' 107 = nf (lapN s n) ∧ (∀ o, o ≠ 106 → o ≠ 107 → o ≠ 113 → o ≠ 114 → o ≠ 115 → M' o = M o) ∧ (∀ i, i < 8 ∨ 13 < i → M' 106 i = M 106 i)
  | 0, _ => ⟨M, fun _ => rfl, hs, fun _ _ _ _ _ _ => rfl, fun _ _ => rfl⟩
  | n + 1, hn => by
    obtain ⟨M1, a1, a2, a3, a4⟩ := m119A hm hs i h2 hN n (by omega)
    obtain ⟨j1, j2, _⟩ := lapN_ok i h2 n
    obtain ⟨M2, b1, b2, b3, b4⟩ := m118 hm a2 j1 (by omega)
    have e : nI n < nI N := nI_lt (by omega) (by omega)
    refine ⟨M2, fun Q => ?_, b2, fun o h1 h2 h3 h4 h5 => by rw [b3 o h1 h2 h3 h4 h5, a3 o h1 h2 h3 h4 h5], fun j hj => by rw [b4 j hj, a4 j hj]⟩
    rw [a1, k119_2]
    simp only [k119_3, k119_4, k119_7, k119_8, k119_11, k119_14, im_t106 hm, im_t107 hm, im_t108 hm, im_t109 hm, im_t110 hm, im_t111 hm, im_t112 hm, im_t113 hm, im_t114 hm, im_t115 hm, im_t116 hm, im_l107 hm, im_l108 hm, im_l109 hm, im_l110 hm, im_l111 hm, im_l112 hm, im_l113 hm, im_l114 hm, im_l115 hm, im_l116 hm, im_r0 hm, im_r1 hm, im_r2 hm, im_r3 hm, im_r5 hm, im_r7 hm, im_r14 hm, im_r15 hm, im_r16 hm, im_r22 hm, rf_s, pushR_s, pushR_n, le4_0, le4_1, le4_2, le4_3, le4_4, isLong_n, isLong_i, isLong_r, isLong_f, if_true, if_false, not_true_eq_false, not_false_eq_true, isI_0, isI_9, isAr_0, isAr_1, isAr_2, isAr_9, okR_i, okR_0, okR_1, putI_0, putI_b0, putI_b1, nI_10, nI_00, Nat.reduceLT, Nat.reduceLeDiff, nI_add, upM_s, upI_s, pk_mul, nf_at, e, b1]
theorem m119 {σ : Sg} {M : Mem} (hm : IsM σ) {s : Nat → Nat} (hs : M 107 = nf s) (i : Inv s) (h2 : 2 ≤ s 0) {n : Nat} (hn : n < 1000) : ∃ M' : Mem, (∀ Q, wp 119 0 [some (.ref 106), some (.int (nI n)), none] [] σ M Q = Q none σ M') ∧ M' 107 = nf (lapN s n) ∧ (∀ o, o ≠ 106 → o ≠ 107 → o ≠ 113 → o ≠ 114 → o ≠ 115 → M' o = M o) ∧ (∀ i, i < 8 ∨ 13 < i → M' 106 i = M 106 i) := by
  obtain ⟨M1, a1, a2, a3, a4⟩ := m119A hm hs i h2 hn n (Nat.le_refl _)
  refine ⟨M1, fun Q => ?_, a2, a3, a4⟩
  have e : ¬ nI n < nI n := nI_nlt (Nat.le_refl _) (by omega)
  simp only [k119_0, k119_1, rf_s, pushR_s, pushR_n, le4_0, le4_1, le4_2, le4_3, le4_4, isLong_n, isLong_i, isLong_r, isLong_f, if_true, if_false, not_true_eq_false, not_false_eq_true, isI_0, isI_9, isAr_0, isAr_1, isAr_2, isAr_9, okR_i, okR_0, okR_1, putI_0, putI_b0, putI_b1, nI_10, nI_00, Nat.reduceLT, Nat.reduceLeDiff, nI_add, upM_s, upI_s, pk_mul, nf_at]
  rw [a1, k119_2]
  simp only [k119_3, k119_4, k119_7, k119_8, k119_11, k119_14, k119_17, im_t106 hm, im_t107 hm, im_t108 hm, im_t109 hm, im_t110 hm, im_t111 hm, im_t112 hm, im_t113 hm, im_t114 hm, im_t115 hm, im_t116 hm, im_l107 hm, im_l108 hm, im_l109 hm, im_l110 hm, im_l111 hm, im_l112 hm, im_l113 hm, im_l114 hm, im_l115 hm, im_l116 hm, im_r0 hm, im_r1 hm, im_r2 hm, im_r3 hm, im_r5 hm, im_r7 hm, im_r14 hm, im_r15 hm, im_r16 hm, im_r22 hm, rf_s, pushR_s, pushR_n, le4_0, le4_1, le4_2, le4_3, le4_4, isLong_n, isLong_i, isLong_r, isLong_f, if_true, if_false, not_true_eq_false, not_false_eq_true, isI_0, isI_9, isAr_0, isAr_1, isAr_2, isAr_9, okR_i, okR_0, okR_1, putI_0, putI_b0, putI_b1, nI_10, nI_00, Nat.reduceLT, Nat.reduceLeDiff, nI_add, upM_s, upI_s, pk_mul, nf_at, e]
