/-! the class: small methods -/
theorem c24 {σ : Sg} {M : Mem} {v a b : Int32} (Q : Po) : wp 24 0 [some (.int v), some (.int a), some (.int b)] [] σ M Q = Q (some (.int (inI v a b))) σ M := by
  unfold inI
  by_cases h1 : v < a
  · simp only [k24_0, k24_1, k24_2, k24_5, k24_6, k24_7, k24_10, k24_11, k24_14, k24_15, rf_s, pushR_s, pushR_n, le4_0, le4_1, le4_2, le4_3, le4_4, isLong_n, isLong_i, isLong_r, isLong_f, if_true, if_false, not_true_eq_false, not_false_eq_true, isI_0, isI_9, isAr_0, isAr_1, isAr_2, isAr_9, okR_i, okR_0, okR_1, putI_0, putI_b0, putI_b1, nI_10, nI_00, Nat.reduceLT, Nat.reduceLeDiff, nI_add, upM_s, upI_s, pk_mul, nf_at, h1]
  · by_cases h2 : b < v
    · simp only [k24_0, k24_1, k24_2, k24_5, k24_6, k24_7, k24_10, k24_11, k24_14, k24_15, rf_s, pushR_s, pushR_n, le4_0, le4_1, le4_2, le4_3, le4_4, isLong_n, isLong_i, isLong_r, isLong_f, if_true, if_false, not_true_eq_false, not_false_eq_true, isI_0, isI_9, isAr_0, isAr_1, isAr_2, isAr_9, okR_i, okR_0, okR_1, putI_0, putI_b0, putI_b1, nI_10, nI_00, Nat.reduceLT, Nat.reduceLeDiff, nI_add, upM_s, upI_s, pk_mul, nf_at, h1, h2]
    · simp only [k24_0, k24_1, k24_2, k24_5, k24_6, k24_7, k24_10, k24_11, k24_14, k24_15, rf_s, pushR_s, pushR_n, le4_0, le4_1, le4_2, le4_3, le4_4, isLong_n, isLong_i, isLong_r, isLong_f, if_true, if_false, not_true_eq_false, not_false_eq_true, isI_0, isI_9, isAr_0, isAr_1, isAr_2, isAr_9, okR_i, okR_0, okR_1, putI_0, putI_b0, putI_b1, nI_10, nI_00, Nat.reduceLT, Nat.reduceLeDiff, nI_add, upM_s, upI_s, pk_mul, nf_at, h1, h2]
theorem c25e {σ : Sg} {M : Mem} {v : Int32} (h : er v) (Q : Po) : wp 25 0 [some (.int v)] [] σ M Q = Q (some (.int (nI 1))) σ M := by
  have e : ¬ (-1000000001 : Int32) < v := by
    rcases h with h | h | h | h <;> subst h <;> decide
  simp only [k25_0, k25_1, k25_3, k25_6, k25_7, k25_10, k25_11, rf_s, pushR_s, pushR_n, le4_0, le4_1, le4_2, le4_3, le4_4, isLong_n, isLong_i, isLong_r, isLong_f, if_true, if_false, not_true_eq_false, not_false_eq_true, isI_0, isI_9, isAr_0, isAr_1, isAr_2, isAr_9, okR_i, okR_0, okR_1, putI_0, putI_b0, putI_b1, nI_10, nI_00, Nat.reduceLT, Nat.reduceLeDiff, nI_add, upM_s, upI_s, pk_mul, nf_at, e]
theorem c25n {σ : Sg} {M : Mem} {v : Int32} (h : nr v) (Q : Po) : wp 25 0 [some (.int v)] [] σ M Q = Q (some (.int (nI 0))) σ M := by
  have e : (-1000000001 : Int32) < v := by
    unfold nr at h
    have h2 : (-1000000001 : Int32).toInt = -1000000001 := by decide
    exact Int32.lt_iff_toInt_lt.2 (by omega)
  simp only [k25_0, k25_1, k25_3, k25_6, k25_7, k25_10, k25_11, rf_s, pushR_s, pushR_n, le4_0, le4_1, le4_2, le4_3, le4_4, isLong_n, isLong_i, isLong_r, isLong_f, if_true, if_false, not_true_eq_false, not_false_eq_true, isI_0, isI_9, isAr_0, isAr_1, isAr_2, isAr_9, okR_i, okR_0, okR_1, putI_0, putI_b0, putI_b1, nI_10, nI_00, Nat.reduceLT, Nat.reduceLeDiff, nI_add, upM_s, upI_s, pk_mul, nf_at, e]
theorem c26 {σ : Sg} {M : Mem} {b t : Nat} (hb : b < 2 ^ 31) (ht : t < 32) (Q : Po) : wp 26 0 [some (.int (nI b)), some (.int (nI t))] [] σ M Q = Q (some (.int (nI (bit b t)))) σ M := by
  have h := shr_bit (b := b) (t := t) hb ht
  have z : ¬ nI 0 = nI 1 := by decide
  rcases (show bit b t = 0 ∨ bit b t = 1 by have := @bit_lt b t; omega) with c | c
  · rw [c] at h ⊢
    simp only [k26_0, k26_1, k26_2, k26_3, k26_4, k26_5, k26_6, k26_9, k26_10, k26_13, k26_14, rf_s, pushR_s, pushR_n, le4_0, le4_1, le4_2, le4_3, le4_4, isLong_n, isLong_i, isLong_r, isLong_f, if_true, if_false, not_true_eq_false, not_false_eq_true, isI_0, isI_9, isAr_0, isAr_1, isAr_2, isAr_9, okR_i, okR_0, okR_1, putI_0, putI_b0, putI_b1, nI_10, nI_00, Nat.reduceLT, Nat.reduceLeDiff, nI_add, upM_s, upI_s, pk_mul, nf_at, h, z]
  · rw [c] at h ⊢
    simp only [k26_0, k26_1, k26_2, k26_3, k26_4, k26_5, k26_6, k26_9, k26_10, k26_13, k26_14, rf_s, pushR_s, pushR_n, le4_0, le4_1, le4_2, le4_3, le4_4, isLong_n, isLong_i, isLong_r, isLong_f, if_true, if_false, not_true_eq_false, not_false_eq_true, isI_0, isI_9, isAr_0, isAr_1, isAr_2, isAr_9, okR_i, okR_0, okR_1, putI_0, putI_b0, putI_b1, nI_10, nI_00, Nat.reduceLT, Nat.reduceLeDiff, nI_add, upM_s, upI_s, pk_mul, nf_at, h]
/-- a row copied -/
theorem c27 {σ : Sg} {M : Mem} {a b n : Nat} (hab : a ≠ b) (ta : isI (sT σ a) = true) (tb : sT σ b = 0) (la : sL σ a = n) (lb : sL σ b = n) (hn : n < 1000) (Q : Po) : wp 27 0 [some (.ref a), some (.ref b), none] [] σ M Q = Q none σ (upM M b (cp n (M a) (M b))) := by
  have ta2 : isAr (sT σ a) = true := by
    unfold isI at ta
    unfold isAr
    simp only [Bool.or_eq_true] at ta ⊢
    exact Or.inl (Or.inl ta)
  have tb2 : isAr (sT σ b) = true := by rw [tb]; rfl
  simp only [k27_0, k27_1, rf_s, pushR_s, pushR_n, le4_0, le4_1, le4_2, le4_3, le4_4, isLong_n, isLong_i, isLong_r, isLong_f, if_true, if_false, not_true_eq_false, not_false_eq_true, isI_0, isI_9, isAr_0, isAr_1, isAr_2, isAr_9, okR_i, okR_0, okR_1, putI_0, putI_b0, putI_b1, nI_10, nI_00, Nat.reduceLT, Nat.reduceLeDiff, nI_add, upM_s, upI_s, pk_mul, nf_at]
  rw [show wp 27 2 [some (.ref a), some (.ref b), some (.int (nI 0))] [] σ M Q = wp 27 2 [some (.ref a), some (.ref b), some (.int (nI 0))] [] σ (upM M b (cp 0 (M a) (M b))) Q from by rw [cp_0, upM_self rfl]]
  refine (wp_up (n := n) (fun k => [some (.ref a), some (.ref b), some (.int (nI k))]) (fun k => upM M b (cp k (M a) (M b))) Q (fun k hk => ?_)).trans ?_
  · have e : nI k < nI n := nI_lt hk (by omega)
    have hn2 : n < 1000000 := by omega
    have u : ∀ f, upM M b f a = M a := fun f => upM_n hab
    rw [k27_2]
    simp only [k27_3, k27_4, k27_5, k27_8, k27_9, k27_10, k27_11, k27_14, k27_15, k27_16, k27_17, k27_18, k27_19, k27_20, k27_23, rf_s, pushR_s, pushR_n, le4_0, le4_1, le4_2, le4_3, le4_4, isLong_n, isLong_i, isLong_r, isLong_f, if_true, if_false, not_true_eq_false, not_false_eq_true, isI_0, isI_9, isAr_0, isAr_1, isAr_2, isAr_9, okR_i, okR_0, okR_1, putI_0, putI_b0, putI_b1, nI_10, nI_00, Nat.reduceLT, Nat.reduceLeDiff, nI_add, upM_s, upI_s, pk_mul, nf_at, e, ta, tb, ta2, tb2, la, lb, hk, hn2, u, upM_up, cp_up]
  · have e : ¬ nI n < nI n := nI_nlt (Nat.le_refl _) (by omega)
    rw [k27_2]
    simp only [k27_3, k27_4, k27_5, k27_8, k27_9, k27_10, k27_11, k27_14, k27_15, k27_16, k27_17, k27_18, k27_19, k27_20, k27_23, k27_26, rf_s, pushR_s, pushR_n, le4_0, le4_1, le4_2, le4_3, le4_4, isLong_n, isLong_i, isLong_r, isLong_f, if_true, if_false, not_true_eq_false, not_false_eq_true, isI_0, isI_9, isAr_0, isAr_1, isAr_2, isAr_9, okR_i, okR_0, okR_1, putI_0, putI_b0, putI_b1, nI_10, nI_00, Nat.reduceLT, Nat.reduceLeDiff, nI_add, upM_s, upI_s, pk_mul, nf_at, e, ta2, la]
/-! ways -/
def RW (M : Mem) (w : Nat) (W : (Nat × Nat × Nat × Nat × (Nat → Nat))) : Prop := M w 1 = nI W.2.1 ∧ M w 2 = nI W.1 ∧ M w 3 = nI W.2.2.1 ∧ M w 4 = nI W.2.2.2.1 ∧ M (w + 1) 0 = nI 0 ∧ ∀ i, i ≤ W.2.1 → M (w + 1) i = nI (W.2.2.2.2 i)
theorem RW_fr {M N : Mem} {w : Nat} {W : (Nat × Nat × Nat × Nat × (Nat → Nat))} (h : RW M w W) (h1 : N w = M w) (h2 : N (w + 1) = M (w + 1)) : RW N w W := by
  unfold RW at h ⊢
  rw [h1, h2]
  exact h
section WAY
variable {σ : Sg} {M : Mem} {w : Nat} {W : (Nat × Nat × Nat × Nat × (Nat → Nat))}
theorem c86 (hw : IsW σ w) (h0 : M (w + 1) 0 = nI 0) : ∃ M', (∀ Q, wp 86 0 [some (.ref w)] [] σ M Q = Q none σ M') ∧ RW M' w W0 ∧ ∀ o, o ≠ w → M' o = M o := by
  refine ⟨upM M w (upI (upI (upI (upI (M w) 1 (nI 0)) 2 (nI 0)) 3 (nI 0)) 4 (nI 1)), fun Q => ?_, ⟨?_, ?_, ?_, ?_, ?_, ?_⟩, fun o h => upM_n h⟩
  · simp only [k86_0, k86_1, k86_2, k86_5, k86_6, k86_7, k86_10, k86_11, k86_12, k86_15, k86_16, k86_17, k86_20, iw_t0 hw, iw_t1 hw, iw_l1 hw, iw_r0 hw, rf_s, pushR_s, pushR_n, le4_0, le4_1, le4_2, le4_3, le4_4, isLong_n, isLong_i, isLong_r, isLong_f, if_true, if_false, not_true_eq_false, not_false_eq_true, isI_0, isI_9, isAr_0, isAr_1, isAr_2, isAr_9, okR_i, okR_0, okR_1, putI_0, putI_b0, putI_b1, nI_10, nI_00, Nat.reduceLT, Nat.reduceLeDiff, nI_add, upM_s, upI_s, pk_mul, nf_at, upM_up]
  · rw [upM_s]; rfl
  · rw [upM_s]; rfl
  · rw [upM_s]; rfl
  · rw [upM_s]; rfl
  · rw [upM_n (by omega)]; exact h0
  · intro i hi
    have : i = 0 := Nat.le_zero.1 hi
    rw [this, upM_n (by omega)]; exact h0
theorem c88 (hw : IsW σ w) {i : Nat} (hi : i < 10) (Q : Po) : wp 88 0 [some (.ref w), some (.int (nI i))] [] σ M Q = Q (some (.int (M (w + 1) i))) σ M := by
  have z : ¬ nI i < 0 := nI_pos (by omega)
  have z2 : nI i < nI 10 := nI_lt hi (by omega)
  simp only [k88_0, k88_1, k88_4, k88_5, k88_6, k88_9, k88_10, k88_13, k88_14, k88_17, k88_18, k88_19, k88_22, k88_23, iw_t0 hw, iw_t1 hw, iw_l1 hw, iw_r0 hw, rf_s, pushR_s, pushR_n, le4_0, le4_1, le4_2, le4_3, le4_4, isLong_n, isLong_i, isLong_r, isLong_f, if_true, if_false, not_true_eq_false, not_false_eq_true, isI_0, isI_9, isAr_0, isAr_1, isAr_2, isAr_9, okR_i, okR_0, okR_1, putI_0, putI_b0, putI_b1, nI_10, nI_00, Nat.reduceLT, Nat.reduceLeDiff, nI_add, upM_s, upI_s, pk_mul, nf_at, z, z2, hi]
theorem c89 (hw : IsW σ w) (rw_ : RW M w W) (hn : W.2.1 ≤ 9) (Q : Po) : wp 89 0 [some (.ref w)] [] σ M Q = Q (some (.int (nI (hr W)))) σ M := by
  obtain ⟨v1, v2, v3, v4, v5, v6⟩ := rw_
  have m := fun Q => c88 (M := M) (Q := Q) hw (i := W.2.1) (by omega)
  have e := v6 W.2.1 (Nat.le_refl _)
  simp only [k89_0, k89_1, k89_2, k89_5, k89_8, iw_t0 hw, iw_t1 hw, iw_l1 hw, iw_r0 hw, rf_s, pushR_s, pushR_n, le4_0, le4_1, le4_2, le4_3, le4_4, isLong_n, isLong_i, isLong_r, isLong_f, if_true, if_false, not_true_eq_false, not_false_eq_true, isI_0, isI_9, isAr_0, isAr_1, isAr_2, isAr_9, okR_i, okR_0, okR_1, putI_0, putI_b0, putI_b1, nI_10, nI_00, Nat.reduceLT, Nat.reduceLeDiff, nI_add, upM_s, upI_s, pk_mul, nf_at, v1, m, e, hr]
theorem c90 (hw : IsW σ w) (rw_ : RW M w W) (h : W.2.2.1 < 2 ^ 16) {k : Nat} (hk : k < 16) (Q : Po) : wp 90 0 [some (.ref w), some (.int (nI k))] [] σ M Q = Q (some (.int (nI (bit W.2.2.1 k)))) σ M := by
  obtain ⟨v1, v2, v3, v4, v5, v6⟩ := rw_
  have m := fun Q => c26 (σ := σ) (M := M) (b := W.2.2.1) (t := k) (Q := Q) (by omega) (by omega)
  have ok : okR (.int (nI 1)) (nI (bit W.2.2.1 k)) = true := by
    rcases (show bit W.2.2.1 k = 0 ∨ bit W.2.2.1 k = 1 by have := @bit_lt W.2.2.1 k; omega) with c | c <;> rw [c] <;> decide
  simp only [k90_0, k90_1, k90_4, k90_5, k90_8, iw_t0 hw, iw_t1 hw, iw_l1 hw, iw_r0 hw, rf_s, pushR_s, pushR_n, le4_0, le4_1, le4_2, le4_3, le4_4, isLong_n, isLong_i, isLong_r, isLong_f, if_true, if_false, not_true_eq_false, not_false_eq_true, isI_0, isI_9, isAr_0, isAr_1, isAr_2, isAr_9, okR_i, okR_0, okR_1, putI_0, putI_b0, putI_b1, nI_10, nI_00, Nat.reduceLT, Nat.reduceLeDiff, nI_add, upM_s, upI_s, pk_mul, nf_at, v3, m, ok]
theorem c91 (hw : IsW σ w) (rw_ : RW M w W) (h : W.2.2.2.1 < 1024) {k : Nat} (hk : k < 16) (Q : Po) : wp 91 0 [some (.ref w), some (.int (nI k))] [] σ M Q = Q (some (.int (nI (bit W.2.2.2.1 k)))) σ M := by
  obtain ⟨v1, v2, v3, v4, v5, v6⟩ := rw_
  have m := fun Q => c26 (σ := σ) (M := M) (b := W.2.2.2.1) (t := k) (Q := Q) (by omega) (by omega)
  have ok : okR (.int (nI 1)) (nI (bit W.2.2.2.1 k)) = true := by
    rcases (show bit W.2.2.2.1 k = 0 ∨ bit W.2.2.2.1 k = 1 by have := @bit_lt W.2.2.2.1 k; omega) with c | c <;> rw [c] <;> decide
  simp only [k91_0, k91_1, k91_4, k91_5, k91_8, iw_t0 hw, iw_t1 hw, iw_l1 hw, iw_r0 hw, rf_s, pushR_s, pushR_n, le4_0, le4_1, le4_2, le4_3, le4_4, isLong_n, isLong_i, isLong_r, isLong_f, if_true, if_false, not_true_eq_false, not_false_eq_true, isI_0, isI_9, isAr_0, isAr_1, isAr_2, isAr_9, okR_i, okR_0, okR_1, putI_0, putI_b0, putI_b1, nI_10, nI_00, Nat.reduceLT, Nat.reduceLeDiff, nI_add, upM_s, upI_s, pk_mul, nf_at, v4, m, ok]
theorem c92 (hw : IsW σ w) (rw_ : RW M w W) (h : W.2.2.2.1 < 1024) {p : Nat} (hp : p ≤ 10) (Q : Po) : wp 92 0 [some (.ref w), some (.int (eI p))] [] σ M Q = Q (some (.int (nI (if p = 10 then 0 else 1 - bit W.2.2.2.1 p)))) σ M := by
  obtain ⟨v1, v2, v3, v4, v5, v6⟩ := rw_
  by_cases c : p = 10
  · subst c
    simp only [k92_0, k92_1, k92_2, k92_5, k92_6, k92_9, k92_10, k92_13, k92_16, k92_17, k92_20, k92_21, iw_t0 hw, iw_t1 hw, iw_l1 hw, iw_r0 hw, rf_s, pushR_s, pushR_n, le4_0, le4_1, le4_2, le4_3, le4_4, isLong_n, isLong_i, isLong_r, isLong_f, if_true, if_false, not_true_eq_false, not_false_eq_true, isI_0, isI_9, isAr_0, isAr_1, isAr_2, isAr_9, okR_i, okR_0, okR_1, putI_0, putI_b0, putI_b1, nI_10, nI_00, Nat.reduceLT, Nat.reduceLeDiff, nI_add, upM_s, upI_s, pk_mul, nf_at, eI_10]
  · have e : eI p = nI p := eI_lt (by omega)
    have z : ¬ nI p = -1 := ne_m1 (by omega)
    have m := fun Q => c26 (σ := σ) (M := M) (b := W.2.2.2.1) (t := p) (Q := Q) (by omega) (by omega)
    rw [e, if_neg c]
    rcases (show bit W.2.2.2.1 p = 0 ∨ bit W.2.2.2.1 p = 1 by have := @bit_lt W.2.2.2.1 p; omega) with c | c
    · simp only [k92_0, k92_1, k92_2, k92_5, k92_6, k92_9, k92_10, k92_13, k92_16, k92_17, k92_20, k92_21, iw_t0 hw, iw_t1 hw, iw_l1 hw, iw_r0 hw, rf_s, pushR_s, pushR_n, le4_0, le4_1, le4_2, le4_3, le4_4, isLong_n, isLong_i, isLong_r, isLong_f, if_true, if_false, not_true_eq_false, not_false_eq_true, isI_0, isI_9, isAr_0, isAr_1, isAr_2, isAr_9, okR_i, okR_0, okR_1, putI_0, putI_b0, putI_b1, nI_10, nI_00, Nat.reduceLT, Nat.reduceLeDiff, nI_add, upM_s, upI_s, pk_mul, nf_at, z, v4, m, c, Nat.reduceSub]
    · simp only [k92_0, k92_1, k92_2, k92_5, k92_6, k92_9, k92_10, k92_13, k92_16, k92_17, k92_20, k92_21, iw_t0 hw, iw_t1 hw, iw_l1 hw, iw_r0 hw, rf_s, pushR_s, pushR_n, le4_0, le4_1, le4_2, le4_3, le4_4, isLong_n, isLong_i, isLong_r, isLong_f, if_true, if_false, not_true_eq_false, not_false_eq_true, isI_0, isI_9, isAr_0, isAr_1, isAr_2, isAr_9, okR_i, okR_0, okR_1, putI_0, putI_b0, putI_b1, nI_10, nI_00, Nat.reduceLT, Nat.reduceLeDiff, nI_add, upM_s, upI_s, pk_mul, nf_at, z, v4, m, c, Nat.reduceSub]
/-- one step of a way -/
def wgo (W : (Nat × Nat × Nat × Nat × (Nat → Nat))) (k t l : Nat) : (Nat × Nat × Nat × Nat × (Nat → Nat)) := (W.1 + l, W.2.1 + 1, W.2.2.1 ||| 2 ^ k, W.2.2.2.1 ||| 2 ^ t, upN W.2.2.2.2 (W.2.1 + 1) t)
theorem c87 (hw : IsW σ w) (rw_ : RW M w W) (hn : W.2.1 < 9) {k t l : Nat} (hk : k < 16) (ht : t < 10) : ∃ M', (∀ Q, wp 87 0 [some (.ref w), some (.int (nI k)), some (.int (nI t)), some (.int (nI l))] [] σ M Q = Q none σ M') ∧ RW M' w (wgo W k t l) ∧ ∀ o, o ≠ w → o ≠ w + 1 → M' o = M o := by
  obtain ⟨v1, v2, v3, v4, v5, v6⟩ := rw_
  have z : ¬ nI W.2.1 < 0 := nI_pos (by omega)
  have z2 : nI (W.2.1 + 1) < nI 10 := nI_lt (by omega) (by omega)
  have hi : W.2.1 + 1 < 10 := by omega
  have h1 := or_set (b := W.2.2.2.1) (t := t) (by omega)
  have h2 := or_set (b := W.2.2.1) (t := k) (by omega)
  have u1 : ∀ f g, upM (upM M w f) (w + 1) g w = f := fun f g => by rw [upM_n (by omega), upM_s]
  have u2 : ∀ f, upM M w f (w + 1) = M (w + 1) := fun f => upM_n (by omega)
  have u3 : ∀ f g h, upM (upM (upM M w f) (w + 1) g) w h = upM (upM M w h) (w + 1) g := fun f g h => by rw [upM_sw (by omega), upM_up]
  refine ⟨upM (upM M w (upI (upI (upI (upI (M w) 1 (nI (W.2.1 + 1))) 2 (nI (W.1 + l))) 3 (nI (W.2.2.1 ||| 2 ^ k))) 4 (nI (W.2.2.2.1 ||| 2 ^ t)))) (w + 1) (upI (M (w + 1)) (W.2.1 + 1) (nI t)), fun Q => ?_, ⟨?_, ?_, ?_, ?_, ?_, ?_⟩, fun o h h2 => by rw [upM_n h2, upM_n h]⟩
  · simp only [k87_0, k87_1, k87_4, k87_7, k87_8, k87_11, k87_12, k87_13, k87_14, k87_17, k87_18, k87_21, k87_22, k87_23i, k87_23r, k87_23f, k87_24, k87_27, k87_28, k87_29, k87_32, k87_33, k87_36, k87_37, k87_40, k87_41, k87_42, k87_43i, k87_43r, k87_43f, k87_44, k87_47, k87_48, k87_49, k87_52, k87_53i, k87_53r, k87_53f, k87_54, k87_57, k87_58, k87_59, k87_60, k87_61, k87_64, k87_65i, k87_65r, k87_65f, k87_66, k87_69, k87_70, k87_71, k87_72, k87_73, k87_76, iw_t0 hw, iw_t1 hw, iw_l1 hw, iw_r0 hw, rf_s, pushR_s, pushR_n, le4_0, le4_1, le4_2, le4_3, le4_4, isLong_n, isLong_i, isLong_r, isLong_f, if_true, if_false, not_true_eq_false, not_false_eq_true, isI_0, isI_9, isAr_0, isAr_1, isAr_2, isAr_9, okR_i, okR_0, okR_1, putI_0, putI_b0, putI_b1, nI_10, nI_00, Nat.reduceLT, Nat.reduceLeDiff, nI_add, upM_s, upI_s, pk_mul, nf_at, upI_n, upM_n, ne_eq, Nat.reduceEqDiff, v1, z, z2, hi, u1, u2, u3, v2, v3, v4, h1, h2]
  · rw [u1]; rfl
  · rw [u1]; rfl
  · rw [u1]; rfl
  · rw [u1]; rfl
  · rw [upM_s, upI_n (by omega)]; exact v5
  · intro i hi
    have hi' : i ≤ W.2.1 + 1 := hi
    rw [upM_s]
    show _ = nI (upN W.2.2.2.2 (W.2.1 + 1) t i)
    by_cases c : i = W.2.1 + 1
    · rw [c, upI_s, upN_s]
    · rw [upI_n c, upN_n c]
      exact v6 i (by omega)
theorem c93 {v : Nat} (hv : IsW σ v) (hw : IsW σ w) (n1 : v ≠ w) (n2 : v ≠ w + 1) (n3 : v + 1 ≠ w) (rv : RW M v W) (hn : W.2.1 ≤ 9) : ∃ M', (∀ Q, wp 93 0 [some (.ref v), some (.ref w)] [] σ M Q = Q none σ M') ∧ RW M' w W ∧ ∀ o, o ≠ w → o ≠ w + 1 → M' o = M o := by
  obtain ⟨v1, v2, v3, v4, v5, v6⟩ := rv
  have m := fun Q => c27 (M := M) (σ := σ) (Q := Q) (a := v + 1) (b := w + 1) (n := 10) (by omega) (by rw [iw_t1 hv]; rfl) (iw_t1 hw) (iw_l1 hv) (iw_l1 hw) (by omega)
  have u1 : ∀ f, upM M (w + 1) f v = M v := fun f => upM_n (by omega)
  have u2 : ∀ f, upM M (w + 1) f w = M w := fun f => upM_n (by omega)
  have u3 : ∀ f g, upM (upM M (w + 1) f) w g v = M v := fun f g => by rw [upM_n n1, upM_n (by omega)]
  refine ⟨upM (upM M (w + 1) (cp 10 (M (v + 1)) (M (w + 1)))) w (upI (upI (upI (upI (M w) 1 (nI W.2.1)) 2 (nI W.1)) 3 (nI W.2.2.1)) 4 (nI W.2.2.2.1)), fun Q => ?_, ⟨?_, ?_, ?_, ?_, ?_, ?_⟩, fun o h h2 => by rw [upM_n h, upM_n h2]⟩
  · simp only [k93_0, k93_1, k93_4, k93_5, k93_8, k93_9, k93_10, k93_13, k93_14, k93_17, k93_20, k93_21, k93_22, k93_25, k93_28, k93_29, k93_30, k93_33, k93_36, k93_37, k93_38, k93_41, k93_44, k93_45, k93_46, k93_49, k93_52, iw_t0 hv, iw_t1 hv, iw_l1 hv, iw_r0 hv, iw_t0 hw, iw_t1 hw, iw_l1 hw, iw_r0 hw, rf_s, pushR_s, pushR_n, le4_0, le4_1, le4_2, le4_3, le4_4, isLong_n, isLong_i, isLong_r, isLong_f, if_true, if_false, not_true_eq_false, not_false_eq_true, isI_0, isI_9, isAr_0, isAr_1, isAr_2, isAr_9, okR_i, okR_0, okR_1, putI_0, putI_b0, putI_b1, nI_10, nI_00, Nat.reduceLT, Nat.reduceLeDiff, nI_add, upM_s, upI_s, pk_mul, nf_at, m, u1, u2, u3, v1, v2, v3, v4, upM_up]
  · rw [upM_s]; rfl
  · rw [upM_s]; rfl
  · rw [upM_s]; rfl
  · rw [upM_s]; rfl
  · rw [upM_n (by omega), upM_s]
    exact v5
  · intro i hi
    rw [upM_n (by omega), upM_s]
    show (if i < 10 then M (v + 1) i else _) = _
    rw [if_pos (by omega)]
    exact v6 i hi
end WAY
