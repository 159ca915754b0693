def sMn : Nat → Nat
  | 0 => 1
  | 1 => 0
  | 2 => 1
  | 3 => 0
  | 4 => 1
  | 5 => 100
  | _ => 1
def sMx : Nat → Nat
  | 0 => 5
  | 1 => 90
  | 2 => 999
  | 3 => 9
  | 4 => 99
  | 5 => 9999
  | _ => 99
def gSet (s : Nat → Nat) (k v : Nat) : Nat → Nat := upN s (13 + k) v
def oSet (s : Nat → Nat) (x y r : Int32) (s' : Nat → Nat) : Prop := (∃ k v, x = nI k ∧ k < 7 ∧ y = nI v ∧ sMn k ≤ v ∧ v ≤ sMx k ∧ r = nI (s (13 + k)) ∧ s' = gSet s k v) ∨ ((¬ ∃ k, k < 7 ∧ x = nI k) ∨ (∃ k, k < 7 ∧ x = nI k ∧ ¬ ∃ v, sMn k ≤ v ∧ v ≤ sMx k ∧ y = nI v)) ∧ r = -1000000001 ∧ s' = s
theorem oSet_ex {s : Nat → Nat} (x y : Int32) : ∃ r s', oSet s x y r s' := by
  by_cases h1 : ∃ k, k < 7 ∧ x = nI k
  · have h1' := h1
    obtain ⟨k, hk, e⟩ := h1
    by_cases h2 : ∃ v, sMn k ≤ v ∧ v ≤ sMx k ∧ y = nI v
    · obtain ⟨v, v1, v2, e2⟩ := h2
      exact ⟨_, _, Or.inl ⟨k, v, e, hk, e2, v1, v2, rfl, rfl⟩⟩
    · exact ⟨_, _, Or.inr ⟨Or.inr ⟨k, hk, e, h2⟩, rfl, rfl⟩⟩
  · exact ⟨_, _, Or.inr ⟨Or.inl h1, rfl, rfl⟩⟩
theorem sMn_lt : ∀ k, sMn k < 10000 := fun k => by
  unfold sMn
  split <;> decide
theorem sMx_lt : ∀ k, sMx k < 10000 := fun k => by
  unfold sMx
  split <;> decide
theorem oSet_inv {s : Nat → Nat} (i : Inv s) {x y r : Int32} {s' : Nat → Nat} (o : oSet s x y r s') : Inv s' ∧ (er r ∧ s' = s ∨ nr r) := by
  rcases o with ⟨k, v, e, hk, e2, v1, v2, h2, h3⟩ | ⟨h, e4, e5⟩
  · rw [h2, h3]
    obtain ⟨⟨g0, g1, g2⟩, i2, i3, i4, i5⟩ := i
    have lo : ∀ j, j < 13 ∨ 20 ≤ j → gSet s k v j = s j := fun j h => upN_n (by omega)
    refine ⟨⟨⟨by rw [lo 0 (by omega)]; exact g0, by rw [lo 1 (by omega)]; exact g1, fun q hq => ?_⟩, ?_, ?_, by rw [lo 8 (by omega)]; exact i4, ?_⟩, Or.inr (nr_nI ?_)⟩
    · rw [lo 1 (by omega)] at hq
      unfold pOk
      rw [lo 0 (by omega), lo (30 + 6 * q + 0) (by omega), lo (30 + 6 * q + 1) (by omega), lo (30 + 6 * q + 2) (by omega), lo (30 + 6 * q + 3) (by omega), lo (30 + 6 * q + 4) (by omega)]
      exact g2 q hq
    · unfold sOk at i2 ⊢
      have up : ∀ j, gSet s k v j = if j = 13 + k then v else s j := fun j => rfl
      rcases (show k = 0 ∨ k = 1 ∨ k = 2 ∨ k = 3 ∨ k = 4 ∨ k = 5 ∨ k = 6 by omega) with c | c | c | c | c | c | c <;> subst c <;> simp only [up, sMn, sMx, Nat.reduceAdd, Nat.reduceEqDiff, if_true, if_false] at * <;> omega
    · unfold fOk at i3 ⊢
      rw [lo 7 (by omega), lo 0 (by omega)]
      exact i3
    · unfold bOk at i5 ⊢
      rw [lo 7 (by omega), lo 0 (by omega), lo 9 (by omega), lo 10 (by omega), lo 12 (by omega), lo 20 (by omega)]
      refine ⟨fun h9 => ?_, i5.2⟩
      obtain ⟨q1, q2, q3, q4, q5, q6, q7⟩ := i5.1 h9
      exact ⟨q1, q2, q3, q4, q5, q6, fun i hi => by rw [lo (20 + i) (by omega)]; exact q7 i hi⟩
    · unfold sOk at i2
      rcases (show k = 0 ∨ k = 1 ∨ k = 2 ∨ k = 3 ∨ k = 4 ∨ k = 5 ∨ k = 6 by omega) with c | c | c | c | c | c | c <;> subst c <;> simp only [Nat.reduceAdd] <;> omega
  · rw [e4, e5]; exact ⟨i, Or.inl ⟨Or.inl rfl, rfl⟩⟩
theorem m124k {σ : Sg} {M : Mem} {k : Nat} (hk : k < 7) (y : Int32) (Q : Po) : wp 124 0 [some (.int (nI k)), some (.int y)] [] σ M Q = Q (some (.int (inI y (nI (sMn k)) (nI (sMx k))))) σ M := by
  have okv : ∀ a b, okR (.int (nI 1)) (inI y a b) = true := fun a b => by
    unfold inI
    split
    · exact okR_0
    · split
      · exact okR_0
      · exact okR_1
  rcases (show k = 0 ∨ k = 1 ∨ k = 2 ∨ k = 3 ∨ k = 4 ∨ k = 5 ∨ k = 6 by omega) with c | c | c | c | c | c | c <;> subst c <;> simp only [k124_0, k124_1, k124_44, k124_45, k124_46, k124_47, k124_50, k124_51, k124_52, k124_53, k124_55, k124_58, k124_59, k124_60, k124_61, k124_64, k124_67, k124_68, k124_69, k124_70, k124_72, k124_75, k124_76, k124_77, k124_78, k124_80, k124_83, k124_84, k124_85, k124_87, k124_90, k124_93, k124_94, k124_95, rf_s, pushR_s, pushR_n, le4_0, le4_1, le4_2, le4_3, le4_4, isLong_n, isLong_i, isLong_r, isLong_f, if_true, if_false, not_true_eq_false, not_false_eq_true, isI_0, isI_9, isAr_0, isAr_1, isAr_2, isAr_9, okR_i, okR_0, okR_1, putI_0, putI_b0, putI_b1, nI_10, nI_00, Nat.reduceLT, Nat.reduceLeDiff, nI_add, upM_s, upI_s, pk_mul, nf_at, nI_lit, Nat.reduceEqDiff, m95, okv, sMn, sMx]
theorem m124n {σ : Sg} {M : Mem} {x : Int32} (h : ¬ ∃ k, k < 7 ∧ x = nI k) (y : Int32) (Q : Po) : wp 124 0 [some (.int x), some (.int y)] [] σ M Q = Q (some (.int (nI 0))) σ M := by
  have n : ∀ k, k < 7 → ¬ x = nI k := fun k hk e => h ⟨k, hk, e⟩
  simp only [k124_0, k124_1, k124_44, k124_45, k124_46, k124_47, k124_50, k124_51, k124_52, k124_53, k124_55, k124_58, k124_59, k124_60, k124_61, k124_64, k124_67, k124_68, k124_69, k124_70, k124_72, k124_75, k124_76, k124_77, k124_78, k124_80, k124_83, k124_84, k124_85, k124_87, k124_90, k124_93, k124_94, k124_95, rf_s, pushR_s, pushR_n, le4_0, le4_1, le4_2, le4_3, le4_4, isLong_n, isLong_i, isLong_r, isLong_f, if_true, if_false, not_true_eq_false, not_false_eq_true, isI_0, isI_9, isAr_0, isAr_1, isAr_2, isAr_9, okR_i, okR_0, okR_1, putI_0, putI_b0, putI_b1, nI_10, nI_00, Nat.reduceLT, Nat.reduceLeDiff, nI_add, upM_s, upI_s, pk_mul, nf_at, n 0 (by omega), n 1 (by omega), n 2 (by omega), n 3 (by omega), n 4 (by omega), n 5 (by omega), n 6 (by omega)]
theorem m125 {σ : Sg} {M : Mem} (hm : IsM σ) {s : Nat → Nat} (hs : M 107 = nf s) {x y r : Int32} {s' : Nat → Nat} (o : oSet s x y r s') (Q : Po) : wp 125 0 [some (.ref 106), some (.int x), some (.int y), none] [] σ M Q = Q (some (.int r)) σ (upM M 107 (nf s')) := by
  have self : upM M 107 (nf s) = M := upM_self hs
  rcases o with ⟨k, v, e, hk, e2, v1, v2, h2, h3⟩ | ⟨h, e4, e5⟩
  · rw [h2, h3]
    have m := fun Q => m124k (σ := σ) (M := M) (Q := Q) hk y
    have hx := sMx_lt k
    have il := inI_c (v := y) (a := sMn k) (b := sMx k) (by omega) (by omega) v1 v2 e2
    subst e e2
    rw [il] at m
    have lt : 13 + k < 146 := by omega
    simp only [k125_0, k125_1, k125_2, k125_5, k125_8, k125_10, k125_11, k125_12, k125_15, k125_17, k125_18, k125_19, k125_20, k125_21, k125_22, k125_25, k125_27, k125_28, k125_29, k125_30, k125_31, k125_32, im_t106 hm, im_t107 hm, im_t108 hm, im_t109 hm, im_t110 hm, im_t111 hm, im_t112 hm, im_t113 hm, im_t114 hm, im_t115 hm, im_t116 hm, im_l107 hm, im_l108 hm, im_l109 hm, im_l110 hm, im_l111 hm, im_l112 hm, im_l113 hm, im_l114 hm, im_l115 hm, im_l116 hm, im_r0 hm, im_r1 hm, im_r2 hm, im_r3 hm, im_r5 hm, im_r7 hm, im_r14 hm, im_r15 hm, im_r16 hm, im_r22 hm, rf_s, pushR_s, pushR_n, le4_0, le4_1, le4_2, le4_3, le4_4, isLong_n, isLong_i, isLong_r, isLong_f, if_true, if_false, not_true_eq_false, not_false_eq_true, isI_0, isI_9, isAr_0, isAr_1, isAr_2, isAr_9, okR_i, okR_0, okR_1, putI_0, putI_b0, putI_b1, nI_10, nI_00, Nat.reduceLT, Nat.reduceLeDiff, nI_add, upM_s, upI_s, pk_mul, nf_at, m, lt, hs, upI_nf, gSet]
  · rw [e4, e5, self]
    rcases h with h | ⟨k, hk, e, h⟩
    · have m := fun Q => m124n (σ := σ) (M := M) (Q := Q) h y
      simp only [k125_0, k125_1, k125_2, k125_5, k125_8, k125_10, k125_11, k125_12, k125_15, k125_17, k125_18, k125_19, k125_20, k125_21, k125_22, k125_25, k125_27, k125_28, k125_29, k125_30, k125_31, k125_32, im_t106 hm, im_t107 hm, im_t108 hm, im_t109 hm, im_t110 hm, im_t111 hm, im_t112 hm, im_t113 hm, im_t114 hm, im_t115 hm, im_t116 hm, im_l107 hm, im_l108 hm, im_l109 hm, im_l110 hm, im_l111 hm, im_l112 hm, im_l113 hm, im_l114 hm, im_l115 hm, im_l116 hm, im_r0 hm, im_r1 hm, im_r2 hm, im_r3 hm, im_r5 hm, im_r7 hm, im_r14 hm, im_r15 hm, im_r16 hm, im_r22 hm, rf_s, pushR_s, pushR_n, le4_0, le4_1, le4_2, le4_3, le4_4, isLong_n, isLong_i, isLong_r, isLong_f, if_true, if_false, not_true_eq_false, not_false_eq_true, isI_0, isI_9, isAr_0, isAr_1, isAr_2, isAr_9, okR_i, okR_0, okR_1, putI_0, putI_b0, putI_b1, nI_10, nI_00, Nat.reduceLT, Nat.reduceLeDiff, nI_add, upM_s, upI_s, pk_mul, nf_at, m]
    · have m := fun Q => m124k (σ := σ) (M := M) (Q := Q) hk y
      have hx := sMx_lt k
      have hn := sMn_lt k
      have il := inI_d (v := y) (a := sMn k) (b := sMx k) (by omega) (by omega) h
      subst e
      rw [il] at m
      simp only [k125_0, k125_1, k125_2, k125_5, k125_8, k125_10, k125_11, k125_12, k125_15, k125_17, k125_18, k125_19, k125_20, k125_21, k125_22, k125_25, k125_27, k125_28, k125_29, k125_30, k125_31, k125_32, im_t106 hm, im_t107 hm, im_t108 hm, im_t109 hm, im_t110 hm, im_t111 hm, im_t112 hm, im_t113 hm, im_t114 hm, im_t115 hm, im_t116 hm, im_l107 hm, im_l108 hm, im_l109 hm, im_l110 hm, im_l111 hm, im_l112 hm, im_l113 hm, im_l114 hm, im_l115 hm, im_l116 hm, im_r0 hm, im_r1 hm, im_r2 hm, im_r3 hm, im_r5 hm, im_r7 hm, im_r14 hm, im_r15 hm, im_r16 hm, im_r22 hm, rf_s, pushR_s, pushR_n, le4_0, le4_1, le4_2, le4_3, le4_4, isLong_n, isLong_i, isLong_r, isLong_f, if_true, if_false, not_true_eq_false, not_false_eq_true, isI_0, isI_9, isAr_0, isAr_1, isAr_2, isAr_9, okR_i, okR_0, okR_1, putI_0, putI_b0, putI_b1, nI_10, nI_00, Nat.reduceLT, Nat.reduceLeDiff, nI_add, upM_s, upI_s, pk_mul, nf_at, m]
