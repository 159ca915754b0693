section UND
variable {σ : Sg} {M : Mem} {s : Nat → Nat} {H : Nat → Nat → Nat} {n len : Nat} {T : Nat → Nat}
def rUndo (n : Nat) (r : Int32) : Prop := n = 0 ∧ r = -1000000002 ∨ n ≠ 0 ∧ r = nI (n - 1)
theorem m148 (hm : IsM σ) (h : RfL M s H n len T) (hn : n ≤ 4) {r : Int32} (o : rUndo n r) : ∃ M', (∀ Q, wp 148 0 [some (.ref 106), none] [] σ M Q = Q (some (.int r)) σ M') ∧ (n = 0 → M' = M) ∧ (n ≠ 0 → ∃ s', e146 (H (n - 1)) s' ∧ RfL M' s' H (n - 1) len T) ∧ ∀ o, o < 106 ∨ 116 < o → M' o = M o := by
  obtain ⟨h1, h2, h3, h4, h5⟩ := h
  rcases o with ⟨c, e⟩ | ⟨c, e⟩
  · subst e
    refine ⟨M, fun Q => ?_, fun _ => rfl, fun q => absurd c q, fun _ _ => rfl⟩
    simp only [k148_0, k148_1, k148_4, k148_7, k148_9, im_t106 hm, im_t107 hm, im_t108 hm, im_t109 hm, im_t110 hm, im_t111 hm, im_t112 hm, im_t113 hm, im_t114 hm, im_t115 hm, im_t116 hm, im_l107 hm, im_l108 hm, im_l109 hm, im_l110 hm, im_l111 hm, im_l112 hm, im_l113 hm, im_l114 hm, im_l115 hm, im_l116 hm, im_r0 hm, im_r1 hm, im_r2 hm, im_r3 hm, im_r5 hm, im_r7 hm, im_r14 hm, im_r15 hm, im_r16 hm, im_r22 hm, rf_s, pushR_s, pushR_n, le4_0, le4_1, le4_2, le4_3, le4_4, isLong_n, isLong_i, isLong_r, isLong_f, if_true, if_false, not_true_eq_false, not_false_eq_true, isI_0, isI_9, isAr_0, isAr_1, isAr_2, isAr_9, okR_i, okR_0, okR_1, putI_0, putI_b0, putI_b1, nI_10, nI_00, Nat.reduceLT, Nat.reduceLeDiff, nI_add, upM_s, upI_s, pk_mul, nf_at, h2, c]
  · subst e
    have z : ¬ nI n = 0 := nI_ne0 (by omega) (by omega)
    have d : nI n - nI 1 = nI (n - 1) := pk_sub (by omega)
    have u1 : ∀ f g, upM (upM M 106 f) 107 g 106 = f := fun f g => rfl
    have u2 : ∀ f g, upM (upM M 106 f) 107 g 110 = M 110 := fun f g => rfl
    refine ⟨upM (upM M 106 (upI (M 106) 4 (nI (n - 1)))) 107 (cp 146 (fun j => M 110 (146 * (n - 1) + j)) (M 107)), fun Q => ?_, fun q => absurd q c, fun _ => ⟨mix (H (n - 1)) s, mix_e, ?_, rfl, fun i j hi hj => h3 i j (by omega) hj, h4, h5⟩, fun o ho => by rw [upM_n (by omega), upM_n (by omega)]⟩
    · simp only [k148_0, k148_1, k148_4, k148_7, k148_9, k148_10, k148_11i, k148_11r, k148_11f, k148_12, k148_15, k148_16, k148_17, k148_20, k148_21, im_t106 hm, im_t107 hm, im_t108 hm, im_t109 hm, im_t110 hm, im_t111 hm, im_t112 hm, im_t113 hm, im_t114 hm, im_t115 hm, im_t116 hm, im_l107 hm, im_l108 hm, im_l109 hm, im_l110 hm, im_l111 hm, im_l112 hm, im_l113 hm, im_l114 hm, im_l115 hm, im_l116 hm, im_r0 hm, im_r1 hm, im_r2 hm, im_r3 hm, im_r5 hm, im_r7 hm, im_r14 hm, im_r15 hm, im_r16 hm, im_r22 hm, rf_s, pushR_s, pushR_n, le4_0, le4_1, le4_2, le4_3, le4_4, isLong_n, isLong_i, isLong_r, isLong_f, if_true, if_false, not_true_eq_false, not_false_eq_true, isI_0, isI_9, isAr_0, isAr_1, isAr_2, isAr_9, okR_i, okR_0, okR_1, putI_0, putI_b0, putI_b1, nI_10, nI_00, Nat.reduceLT, Nat.reduceLeDiff, nI_add, upM_s, upI_s, pk_mul, nf_at, h2, z, d]
      rw [show wp 148 22 [some (.ref 106), some (.int (nI 0))] [] σ (upM M 106 (upI (M 106) 4 (nI (n - 1)))) Q = wp 148 22 [some (.ref 106), some (.int (nI 0))] [] σ (upM (upM M 106 (upI (M 106) 4 (nI (n - 1)))) 107 (cp 0 (fun j => M 110 (146 * (n - 1) + j)) (M 107))) Q from by rw [cp_0, upM_self (M := upM M 106 (upI (M 106) 4 (nI (n - 1)))) (o := 107) (f := M 107) rfl]]
      refine (wp_up (n := 146) (fun k => [some (.ref 106), some (.int (nI k))]) (fun k => upM (upM M 106 (upI (M 106) 4 (nI (n - 1)))) 107 (cp k (fun j => M 110 (146 * (n - 1) + j)) (M 107))) Q (fun k hk => ?_)).trans ?_
      · have e : nI k < nI 146 := nI_lt hk (by omega)
        have hi : 146 * (n - 1) + k < 584 := by omega
        have up := cp_up (f := fun j => M 110 (146 * (n - 1) + j)) (g := M 107) (n := k)
        rw [k148_22]
        simp only [k148_23, k148_26, k148_29, k148_30, k148_33, k148_34, k148_35, k148_38, k148_41, k148_42, k148_45, k148_46, k148_47, k148_48, k148_49, k148_50, k148_53, im_t106 hm, im_t107 hm, im_t108 hm, im_t109 hm, im_t110 hm, im_t111 hm, im_t112 hm, im_t113 hm, im_t114 hm, im_t115 hm, im_t116 hm, im_l107 hm, im_l108 hm, im_l109 hm, im_l110 hm, im_l111 hm, im_l112 hm, im_l113 hm, im_l114 hm, im_l115 hm, im_l116 hm, im_r0 hm, im_r1 hm, im_r2 hm, im_r3 hm, im_r5 hm, im_r7 hm, im_r14 hm, im_r15 hm, im_r16 hm, im_r22 hm, rf_s, pushR_s, pushR_n, le4_0, le4_1, le4_2, le4_3, le4_4, isLong_n, isLong_i, isLong_r, isLong_f, if_true, if_false, not_true_eq_false, not_false_eq_true, isI_0, isI_9, isAr_0, isAr_1, isAr_2, isAr_9, okR_i, okR_0, okR_1, putI_0, putI_b0, putI_b1, nI_10, nI_00, Nat.reduceLT, Nat.reduceLeDiff, nI_add, upM_s, upI_s, pk_mul, nf_at, e, u1, u2, hk, hi, upM_up, up]
      · have e : ¬ nI 146 < nI 146 := by decide
        rw [k148_22]
        simp only [k148_23, k148_26, k148_29, k148_30, k148_33, k148_34, k148_35, k148_38, k148_41, k148_42, k148_45, k148_46, k148_47, k148_48, k148_49, k148_50, k148_53, k148_56, k148_57, k148_60, im_t106 hm, im_t107 hm, im_t108 hm, im_t109 hm, im_t110 hm, im_t111 hm, im_t112 hm, im_t113 hm, im_t114 hm, im_t115 hm, im_t116 hm, im_l107 hm, im_l108 hm, im_l109 hm, im_l110 hm, im_l111 hm, im_l112 hm, im_l113 hm, im_l114 hm, im_l115 hm, im_l116 hm, im_r0 hm, im_r1 hm, im_r2 hm, im_r3 hm, im_r5 hm, im_r7 hm, im_r14 hm, im_r15 hm, im_r16 hm, im_r22 hm, rf_s, pushR_s, pushR_n, le4_0, le4_1, le4_2, le4_3, le4_4, isLong_n, isLong_i, isLong_r, isLong_f, if_true, if_false, not_true_eq_false, not_false_eq_true, isI_0, isI_9, isAr_0, isAr_1, isAr_2, isAr_9, okR_i, okR_0, okR_1, putI_0, putI_b0, putI_b1, nI_10, nI_00, Nat.reduceLT, Nat.reduceLeDiff, nI_add, upM_s, upI_s, pk_mul, nf_at, e, u1]
    · rw [upM_s, h1]
      funext j
      unfold cp nf mix
      by_cases cj : j < 146
      · rw [if_pos cj, if_pos cj]
        exact h3 (n - 1) j (by omega) cj
      · rw [if_neg cj, if_neg cj]
def rType (len : Nat) (x r : Int32) : Prop := (∃ c, 32 ≤ c ∧ c ≤ 126 ∧ x = nI c ∧ (len = 60 ∧ r = -1000000003 ∨ len < 60 ∧ r = nI (len + 1))) ∨ (¬ ∃ c, 32 ≤ c ∧ c ≤ 126 ∧ x = nI c) ∧ r = -1000000001
theorem rType_ex (hl : len ≤ 60) (x : Int32) : ∃ r, rType len x r := by
  by_cases h : ∃ c, 32 ≤ c ∧ c ≤ 126 ∧ x = nI c
  · obtain ⟨c, h1, h2, e⟩ := h
    by_cases h3 : len = 60
    · exact ⟨_, Or.inl ⟨c, h1, h2, e, Or.inl ⟨h3, rfl⟩⟩⟩
    · exact ⟨_, Or.inl ⟨c, h1, h2, e, Or.inr ⟨by omega, rfl⟩⟩⟩
  · exact ⟨_, Or.inr ⟨h, rfl⟩⟩
theorem m149 (hm : IsM σ) (h : RfL M s H n len T) (hl : len ≤ 60) {x r : Int32} (o : rType len x r) : ∃ M', (∀ Q, wp 149 0 [some (.ref 106), some (.int x)] [] σ M Q = Q (some (.int r)) σ M') ∧ (r ≠ nI (len + 1) → M' = M) ∧ (∀ c, x = nI c → r = nI (len + 1) → RfL M' s H n (len + 1) (upN T len c)) ∧ ∀ o, o < 106 ∨ 116 < o → M' o = M o := by
  have h0 := h
  obtain ⟨h1, h2, h3, h4, h5⟩ := h
  rcases o with ⟨c, b1, b2, e, ⟨q, er⟩ | ⟨q, er⟩⟩ | ⟨q, er⟩
  · subst e er
    have il := inI_c (v := nI c) (a := 32) (b := 126) (by omega) (by omega) b1 b2 rfl
    refine ⟨M, fun Q => ?_, fun _ => rfl, fun c' _ e => absurd e (by rw [q]; decide), fun _ _ => rfl⟩
    simp only [k149_0, k149_1, k149_3, k149_5, k149_8, k149_11, k149_13, k149_14, k149_15, k149_18, k149_20, k149_23, k149_25, k149_26, k149_27, k149_30, k149_31, k149_34, k149_35, k149_36, k149_37i, k149_37r, k149_37f, k149_38, k149_41, k149_42, k149_43, k149_46, k149_47, k149_50, im_t106 hm, im_t107 hm, im_t108 hm, im_t109 hm, im_t110 hm, im_t111 hm, im_t112 hm, im_t113 hm, im_t114 hm, im_t115 hm, im_t116 hm, im_l107 hm, im_l108 hm, im_l109 hm, im_l110 hm, im_l111 hm, im_l112 hm, im_l113 hm, im_l114 hm, im_l115 hm, im_l116 hm, im_r0 hm, im_r1 hm, im_r2 hm, im_r3 hm, im_r5 hm, im_r7 hm, im_r14 hm, im_r15 hm, im_r16 hm, im_r22 hm, rf_s, pushR_s, pushR_n, le4_0, le4_1, le4_2, le4_3, le4_4, isLong_n, isLong_i, isLong_r, isLong_f, if_true, if_false, not_true_eq_false, not_false_eq_true, isI_0, isI_9, isAr_0, isAr_1, isAr_2, isAr_9, okR_i, okR_0, okR_1, putI_0, putI_b0, putI_b1, nI_10, nI_00, Nat.reduceLT, Nat.reduceLeDiff, nI_add, upM_s, upI_s, pk_mul, nf_at, m95, il, h4, q]
  · subst e er
    have il := inI_c (v := nI c) (a := 32) (b := 126) (by omega) (by omega) b1 b2 rfl
    have z : ¬ nI len = nI 60 := ne_n (by omega) (by omega) (by omega)
    have u1 : ∀ f, upM M 111 f 106 = M 106 := fun f => rfl
    refine ⟨upM (upM M 111 (upI (M 111) len (nI c))) 106 (upI (M 106) 6 (nI (len + 1))), fun Q => ?_, fun e => absurd rfl e, fun c' e _ => ?_, fun o ho => by rw [upM_n (by omega), upM_n (by omega)]⟩
    · simp only [k149_0, k149_1, k149_3, k149_5, k149_8, k149_11, k149_13, k149_14, k149_15, k149_18, k149_20, k149_23, k149_25, k149_26, k149_27, k149_30, k149_31, k149_34, k149_35, k149_36, k149_37i, k149_37r, k149_37f, k149_38, k149_41, k149_42, k149_43, k149_46, k149_47, k149_50, im_t106 hm, im_t107 hm, im_t108 hm, im_t109 hm, im_t110 hm, im_t111 hm, im_t112 hm, im_t113 hm, im_t114 hm, im_t115 hm, im_t116 hm, im_l107 hm, im_l108 hm, im_l109 hm, im_l110 hm, im_l111 hm, im_l112 hm, im_l113 hm, im_l114 hm, im_l115 hm, im_l116 hm, im_r0 hm, im_r1 hm, im_r2 hm, im_r3 hm, im_r5 hm, im_r7 hm, im_r14 hm, im_r15 hm, im_r16 hm, im_r22 hm, rf_s, pushR_s, pushR_n, le4_0, le4_1, le4_2, le4_3, le4_4, isLong_n, isLong_i, isLong_r, isLong_f, if_true, if_false, not_true_eq_false, not_false_eq_true, isI_0, isI_9, isAr_0, isAr_1, isAr_2, isAr_9, okR_i, okR_0, okR_1, putI_0, putI_b0, putI_b1, nI_10, nI_00, Nat.reduceLT, Nat.reduceLeDiff, nI_add, upM_s, upI_s, pk_mul, nf_at, m95, il, h4, z, q, u1]
    · refine ⟨h1, h2, h3, rfl, fun j hj => ?_⟩
      show upI (M 111) len (nI c) j = nI (upN T len c' j)
      unfold upI upN
      by_cases cj : j = len
      · rw [if_pos cj, if_pos cj, e]
      · rw [if_neg cj, if_neg cj]
        exact h5 j (by omega)
  · subst er
    have il := inI_d (v := x) (a := 32) (b := 126) (by omega) (by omega) q
    have z : ¬ (-1000000001 : Int32) = nI (len + 1) := fun e => by
      have h := congrArg Int32.toInt e
      rw [nI_toInt (by omega)] at h
      have h2 : Int32.toInt (-1000000001) = -1000000001 := by decide
      omega
    refine ⟨M, fun Q => ?_, fun _ => rfl, fun c' _ e => absurd e z, fun _ _ => rfl⟩
    simp only [k149_0, k149_1, k149_3, k149_5, k149_8, k149_11, k149_13, k149_14, k149_15, k149_18, k149_20, k149_23, k149_25, k149_26, k149_27, k149_30, k149_31, k149_34, k149_35, k149_36, k149_37i, k149_37r, k149_37f, k149_38, k149_41, k149_42, k149_43, k149_46, k149_47, k149_50, im_t106 hm, im_t107 hm, im_t108 hm, im_t109 hm, im_t110 hm, im_t111 hm, im_t112 hm, im_t113 hm, im_t114 hm, im_t115 hm, im_t116 hm, im_l107 hm, im_l108 hm, im_l109 hm, im_l110 hm, im_l111 hm, im_l112 hm, im_l113 hm, im_l114 hm, im_l115 hm, im_l116 hm, im_r0 hm, im_r1 hm, im_r2 hm, im_r3 hm, im_r5 hm, im_r7 hm, im_r14 hm, im_r15 hm, im_r16 hm, im_r22 hm, rf_s, pushR_s, pushR_n, le4_0, le4_1, le4_2, le4_3, le4_4, isLong_n, isLong_i, isLong_r, isLong_f, if_true, if_false, not_true_eq_false, not_false_eq_true, isI_0, isI_9, isAr_0, isAr_1, isAr_2, isAr_9, okR_i, okR_0, okR_1, putI_0, putI_b0, putI_b1, nI_10, nI_00, Nat.reduceLT, Nat.reduceLeDiff, nI_add, upM_s, upI_s, pk_mul, nf_at, m95, il]
theorem m150 (hm : IsM σ) (h : RfL M s H n len T) : ∃ M', (∀ Q, wp 150 0 [some (.ref 106), none] [] σ M Q = Q (some (.int (nI len))) σ M') ∧ RfL M' s H n 0 T ∧ ∀ o, o < 106 ∨ 116 < o → M' o = M o := by
  obtain ⟨h1, h2, h3, h4, h5⟩ := h
  refine ⟨upM M 106 (upI (M 106) 6 (nI 0)), fun Q => ?_, ⟨h1, h2, h3, rfl, fun j hj => absurd hj (Nat.not_lt_zero _)⟩, fun o ho => upM_n (by omega)⟩
  simp only [k150_0, k150_1, k150_4, k150_5, k150_6, k150_7, k150_10, k150_11, im_t106 hm, im_t107 hm, im_t108 hm, im_t109 hm, im_t110 hm, im_t111 hm, im_t112 hm, im_t113 hm, im_t114 hm, im_t115 hm, im_t116 hm, im_l107 hm, im_l108 hm, im_l109 hm, im_l110 hm, im_l111 hm, im_l112 hm, im_l113 hm, im_l114 hm, im_l115 hm, im_l116 hm, im_r0 hm, im_r1 hm, im_r2 hm, im_r3 hm, im_r5 hm, im_r7 hm, im_r14 hm, im_r15 hm, im_r16 hm, im_r22 hm, rf_s, pushR_s, pushR_n, le4_0, le4_1, le4_2, le4_3, le4_4, isLong_n, isLong_i, isLong_r, isLong_f, if_true, if_false, not_true_eq_false, not_false_eq_true, isI_0, isI_9, isAr_0, isAr_1, isAr_2, isAr_9, okR_i, okR_0, okR_1, putI_0, putI_b0, putI_b1, nI_10, nI_00, Nat.reduceLT, Nat.reduceLeDiff, nI_add, upM_s, upI_s, pk_mul, nf_at, h4]
end UND
/-! texts: digits, numbers, orders -/
def dg (T : Nat → Nat) (len p : Nat) : Nat := if p < len ∧ 48 ≤ T p ∧ T p ≤ 57 then 1 else 0
def chr (T : Nat → Nat) (len p c : Nat) : Nat := if p < len ∧ T p = c then 1 else 0
def num (T : Nat → Nat) (len : Nat) : Nat → Nat → Nat → Nat × Nat
  | 0, p, v => (p, v)
  | f + 1, p, v => if dg T len p = 1 then num T len f (p + 1) (10 * v + T p - 48) else (p, v)
theorem num_n {T : Nat → Nat} {len p v : Nat} (h : dg T len p ≠ 1) : ∀ f, num T len f p v = (p, v)
  | 0 => rfl
  | f + 1 => if_neg h
theorem num_ge {T : Nat → Nat} {len : Nat} : ∀ f p v, p ≤ (num T len f p v).1
  | 0, p, v => Nat.le_refl _
  | f + 1, p, v => by
    unfold num
    split
    · exact Nat.le_trans (Nat.le_succ p) (num_ge f (p + 1) _)
    · exact Nat.le_refl _
theorem num_le {T : Nat → Nat} {len : Nat} : ∀ f p v, p ≤ len → (num T len f p v).1 ≤ len
  | 0, p, v, h => h
  | f + 1, p, v, h => by
    unfold num
    split
    · rename_i c
      unfold dg at c
      split at c
      · exact num_le f (p + 1) _ (by omega)
      · omega
    · exact h
theorem dg_1 {T : Nat → Nat} {len p : Nat} (h : dg T len p = 1) : p < len ∧ 48 ≤ T p ∧ T p ≤ 57 := by
  unfold dg at h
  split at h
  · assumption
  · omega
theorem dg_0 {T : Nat → Nat} {len p : Nat} (h : dg T len p ≠ 1) : dg T len p = 0 := by
  unfold dg at h ⊢
  split at h
  · exact absurd rfl h
  · rename_i c
    rw [if_neg c]
theorem num_v {T : Nat → Nat} {len : Nat} : ∀ f p v, (num T len f p v).2 < (v + 1) * 10 ^ f
  | 0, p, v => by
    show v < (v + 1) * 1
    omega
  | f + 1, p, v => by
    unfold num
    split
    · rename_i c
      have d := dg_1 c
      have ih := num_v (T := T) (len := len) f (p + 1) (10 * v + T p - 48)
      have h2 : (10 * v + T p - 48 + 1) * 10 ^ f ≤ (10 * (v + 1)) * 10 ^ f := Nat.mul_le_mul_right _ (by omega)
      rw [Nat.pow_succ, Nat.mul_comm (10 ^ f) 10, ← Nat.mul_assoc, Nat.mul_comm (v + 1) 10]
      exact Nat.lt_of_lt_of_le ih h2
    · show v < (v + 1) * 10 ^ (f + 1)
      have : 1 ≤ 10 ^ (f + 1) := Nat.pow_pos (by decide)
      have h2 : (v + 1) * 1 ≤ (v + 1) * 10 ^ (f + 1) := Nat.mul_le_mul_left _ this
      omega
def many (c : Nat) : Nat := if c = 112 then 3 else if c = 115 then 2 else if c = 99 ∨ c = 111 ∨ c = 102 ∨ c = 108 then 1 else 0
theorem many_le {c : Nat} : many c ≤ 3 := by
  unfold many
  split
  · omega
  · split
    · omega
    · split <;> omega
/-- the numbers of an order: whether they are there, where the reading is then, and they -/
def rdn (T : Nat → Nat) (len : Nat) : Nat → Nat → Nat → (Nat → Nat) → Nat × Nat × (Nat → Nat)
  | 0, _, p, N => (1, p, N)
  | j + 1, k, p, N => if k ≠ 0 ∧ chr T len p 44 = 0 then (0, p, N) else if dg T len (if k = 0 then p else p + 1) = 1 then rdn T len j (k + 1) (num T len 4 (if k = 0 then p else p + 1) 0).1 (upN N k (num T len 4 (if k = 0 then p else p + 1) 0).2) else (0, if k = 0 then p else p + 1, N)
def pf (T : Nat → Nat) (len p : Nat) (N : Nat → Nat) : Nat × Nat × (Nat → Nat) := if many (T p) = 0 then (0, p, N) else if (rdn T len (many (T p)) 0 (p + 1) N).1 = 1 ∧ chr T len (rdn T len (many (T p)) 0 (p + 1) N).2.1 59 = 0 then (0, (rdn T len (many (T p)) 0 (p + 1) N).2.1, N) else ((rdn T len (many (T p)) 0 (p + 1) N).1, (rdn T len (many (T p)) 0 (p + 1) N).2.1 + (rdn T len (many (T p)) 0 (p + 1) N).1, (rdn T len (many (T p)) 0 (p + 1) N).2.2)
theorem chr_1 {T : Nat → Nat} {len p c : Nat} (h : chr T len p c ≠ 0) : p < len ∧ T p = c ∧ chr T len p c = 1 := by
  unfold chr at h ⊢
  split at h
  · rename_i q
    exact ⟨q.1, q.2, if_pos q⟩
  · exact absurd rfl h
theorem rdn_ok {T : Nat → Nat} {len : Nat} : ∀ j k p N, p ≤ len → (rdn T len j k p N).1 ≤ 1 ∧ p ≤ (rdn T len j k p N).2.1 ∧ (rdn T len j k p N).2.1 ≤ len
  | 0, k, p, N, h => ⟨Nat.le_refl _, Nat.le_refl _, h⟩
  | j + 1, k, p, N, h => by
    unfold rdn
    by_cases c : k ≠ 0 ∧ chr T len p 44 = 0
    · rw [if_pos c]; exact ⟨Nat.zero_le _, Nat.le_refl _, h⟩
    · rw [if_neg c]
      have hp : (if k = 0 then p else p + 1) ≤ len ∧ p ≤ (if k = 0 then p else p + 1) := by
        by_cases c2 : k = 0
        · rw [if_pos c2]; exact ⟨h, Nat.le_refl _⟩
        · rw [if_neg c2]
          have := (chr_1 (T := T) (len := len) (p := p) (c := 44) (fun e => c ⟨c2, e⟩)).1
          omega
      generalize (if k = 0 then p else p + 1) = q at *
      by_cases c3 : dg T len q = 1
      · rw [if_pos c3]
        have a := num_ge (T := T) (len := len) 4 q 0
        have b := num_le (T := T) (len := len) 4 q 0 hp.1
        have ih := rdn_ok (T := T) (len := len) j (k + 1) (num T len 4 q 0).1 (upN N k (num T len 4 q 0).2) b
        exact ⟨ih.1, by omega, ih.2.2⟩
      · rw [if_neg c3]; exact ⟨Nat.zero_le _, hp.2, hp.1⟩
theorem pf_ok {T : Nat → Nat} {len p : Nat} {N : Nat → Nat} (h : p < len) : (pf T len p N).1 ≤ 1 ∧ p ≤ (pf T len p N).2.1 ∧ (pf T len p N).2.1 ≤ len ∧ ((pf T len p N).1 = 1 → p < (pf T len p N).2.1 ∧ many (T p) ≠ 0) := by
  unfold pf
  by_cases c : many (T p) = 0
  · rw [if_pos c]; exact ⟨Nat.zero_le _, Nat.le_refl _, Nat.le_of_lt h, fun e => by cases e⟩
  · rw [if_neg c]
    have ok := rdn_ok (T := T) (len := len) (many (T p)) 0 (p + 1) N h
    generalize rdn T len (many (T p)) 0 (p + 1) N = R at *
    by_cases c2 : R.1 = 1 ∧ chr T len R.2.1 59 = 0
    · rw [if_pos c2]; exact ⟨Nat.zero_le _, show p ≤ R.2.1 by omega, ok.2.2, fun e => by cases e⟩
    · rw [if_neg c2]
      refine ⟨ok.1, show p ≤ R.2.1 + R.1 by omega, show R.2.1 + R.1 ≤ len from ?_, fun _ => ⟨show p < R.2.1 + R.1 by omega, c⟩⟩
      by_cases c3 : R.1 = 1
      · have := (chr_1 (T := T) (len := len) (p := R.2.1) (c := 59) (fun e => c2 ⟨c3, e⟩)).1
        omega
      · have := ok.2.2
        omega
