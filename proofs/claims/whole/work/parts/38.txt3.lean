def N0 : Nat → Nat := fun _ => 0
section TXT
variable {σ : Sg} {len : Nat} {T : Nat → Nat}
theorem m155 (hm : IsM σ) {M : Mem} {p : Nat} (hp : M 106 17 = nI p) (h1 : M 106 21 = nI 1) (tx : Tx M len T) (hl : p < len) : ∃ M', (∀ Q, wp 155 0 [some (.ref 106), some (.int (nI (T p))), none, none] [] σ M Q = Q none σ M') ∧ M' 106 17 = nI (pf T len p N0).2.1 ∧ M' 106 21 = nI (pf T len p N0).1 ∧ ((pf T len p N0).1 = 1 → ∀ i, i < many (T p) → M' 116 i = nI ((pf T len p N0).2.2 i)) ∧ TF M M' := by
  have hT := tx.2.2.2 p hl
  have m4 := fun Q => m154 (σ := σ) (M := M) (c := T p) (Q := Q) (by omega)
  have hm3 := @many_le (T p)
  unfold pf
  by_cases c : many (T p) = 0
  · rw [if_pos c]
    rw [c] at m4 ⊢
    obtain ⟨A, a1, a2, a3, a4, _⟩ := m152 hm (p := p) (f := 1) (b := 0) (by omega) (by omega) hp h1
    have a2' : A 106 17 = nI p := a2
    have ms := fun Q => m151 (Q := Q) hm (Tx_f tx a4) a2' (by omega)
    have z : ¬ 0 < nI 0 := by decide
    have e : ¬ nI 0 < nI 0 := by decide
    obtain ⟨B, b1, b2, b3, b4, _⟩ := m152 hm (p := p) (f := 0) (b := 0) (by omega) (by omega) a2 a3
    obtain ⟨C, c1, c2, c3, c4, _⟩ := m152 hm (p := p) (f := 0) (b := 1) (by omega) (by omega) a2 a3
    rcases sg_chr (T := T) (len := len) (p := p) (c := 59) tx.2.2.2 (by omega) with ⟨_, q⟩ | ⟨_, q⟩
    · refine ⟨C, fun Q => ?_, c2, c3, fun h => absurd h (show ¬ 0 = 1 by decide), TF_t a4 c4⟩
      simp only [k155_0, k155_1, k155_4, k155_5, k155_6, k155_7, k155_10, k155_11, k155_14, k155_15, k155_18, k155_19, im_t106 hm, im_t107 hm, im_t108 hm, im_t109 hm, im_t110 hm, im_t111 hm, im_t112 hm, im_t113 hm, im_t114 hm, im_t115 hm, im_t116 hm, im_l107 hm, im_l108 hm, im_l109 hm, im_l110 hm, im_l111 hm, im_l112 hm, im_l113 hm, im_l114 hm, im_l115 hm, im_l116 hm, im_r0 hm, im_r1 hm, im_r2 hm, im_r3 hm, im_r5 hm, im_r7 hm, im_r14 hm, im_r15 hm, im_r16 hm, im_r22 hm, rf_s, pushR_s, pushR_n, le4_0, le4_1, le4_2, le4_3, le4_4, isLong_n, isLong_i, isLong_r, isLong_f, if_true, if_false, not_true_eq_false, not_false_eq_true, isI_0, isI_9, isAr_0, isAr_1, isAr_2, isAr_9, okR_i, okR_0, okR_1, putI_0, putI_b0, putI_b1, nI_10, nI_00, Nat.reduceLT, Nat.reduceLeDiff, nI_add, upM_s, upI_s, pk_mul, nf_at, m4, z, a1]
      rw [k155_20]
      simp only [k155_21, k155_22, k155_25, k155_26, k155_29, k155_30, k155_31, k155_34, k155_36, k155_39, k155_40, k155_43, k155_44, k155_47, k155_48, k155_51, k155_52, k155_53, k155_56, k155_57, k155_60, k155_63, k155_64, k155_65, k155_68, k155_70, k155_73, k155_74, k155_77, k155_78, k155_81, im_t106 hm, im_t107 hm, im_t108 hm, im_t109 hm, im_t110 hm, im_t111 hm, im_t112 hm, im_t113 hm, im_t114 hm, im_t115 hm, im_t116 hm, im_l107 hm, im_l108 hm, im_l109 hm, im_l110 hm, im_l111 hm, im_l112 hm, im_l113 hm, im_l114 hm, im_l115 hm, im_l116 hm, im_r0 hm, im_r1 hm, im_r2 hm, im_r3 hm, im_r5 hm, im_r7 hm, im_r14 hm, im_r15 hm, im_r16 hm, im_r22 hm, rf_s, pushR_s, pushR_n, le4_0, le4_1, le4_2, le4_3, le4_4, isLong_n, isLong_i, isLong_r, isLong_f, if_true, if_false, not_true_eq_false, not_false_eq_true, isI_0, isI_9, isAr_0, isAr_1, isAr_2, isAr_9, okR_i, okR_0, okR_1, putI_0, putI_b0, putI_b1, nI_10, nI_00, Nat.reduceLT, Nat.reduceLeDiff, nI_add, upM_s, upI_s, pk_mul, nf_at, e, ms, q, c1]
    · refine ⟨B, fun Q => ?_, b2, b3, fun h => absurd h (show ¬ 0 = 1 by decide), TF_t a4 b4⟩
      simp only [k155_0, k155_1, k155_4, k155_5, k155_6, k155_7, k155_10, k155_11, k155_14, k155_15, k155_18, k155_19, im_t106 hm, im_t107 hm, im_t108 hm, im_t109 hm, im_t110 hm, im_t111 hm, im_t112 hm, im_t113 hm, im_t114 hm, im_t115 hm, im_t116 hm, im_l107 hm, im_l108 hm, im_l109 hm, im_l110 hm, im_l111 hm, im_l112 hm, im_l113 hm, im_l114 hm, im_l115 hm, im_l116 hm, im_r0 hm, im_r1 hm, im_r2 hm, im_r3 hm, im_r5 hm, im_r7 hm, im_r14 hm, im_r15 hm, im_r16 hm, im_r22 hm, rf_s, pushR_s, pushR_n, le4_0, le4_1, le4_2, le4_3, le4_4, isLong_n, isLong_i, isLong_r, isLong_f, if_true, if_false, not_true_eq_false, not_false_eq_true, isI_0, isI_9, isAr_0, isAr_1, isAr_2, isAr_9, okR_i, okR_0, okR_1, putI_0, putI_b0, putI_b1, nI_10, nI_00, Nat.reduceLT, Nat.reduceLeDiff, nI_add, upM_s, upI_s, pk_mul, nf_at, m4, z, a1]
      rw [k155_20]
      simp only [k155_21, k155_22, k155_25, k155_26, k155_29, k155_30, k155_31, k155_34, k155_36, k155_39, k155_40, k155_43, k155_44, k155_47, k155_48, k155_51, k155_52, k155_53, k155_56, k155_57, k155_60, k155_63, k155_64, k155_65, k155_68, k155_70, k155_73, k155_74, k155_77, k155_78, k155_81, im_t106 hm, im_t107 hm, im_t108 hm, im_t109 hm, im_t110 hm, im_t111 hm, im_t112 hm, im_t113 hm, im_t114 hm, im_t115 hm, im_t116 hm, im_l107 hm, im_l108 hm, im_l109 hm, im_l110 hm, im_l111 hm, im_l112 hm, im_l113 hm, im_l114 hm, im_l115 hm, im_l116 hm, im_r0 hm, im_r1 hm, im_r2 hm, im_r3 hm, im_r5 hm, im_r7 hm, im_r14 hm, im_r15 hm, im_r16 hm, im_r22 hm, rf_s, pushR_s, pushR_n, le4_0, le4_1, le4_2, le4_3, le4_4, isLong_n, isLong_i, isLong_r, isLong_f, if_true, if_false, not_true_eq_false, not_false_eq_true, isI_0, isI_9, isAr_0, isAr_1, isAr_2, isAr_9, okR_i, okR_0, okR_1, putI_0, putI_b0, putI_b1, nI_10, nI_00, Nat.reduceLT, Nat.reduceLeDiff, nI_add, upM_s, upI_s, pk_mul, nf_at, e, ms, q, b1]
  · rw [if_neg c]
    have z : 0 < nI (many (T p)) := by rw [← nI_0]; exact nI_lt (by omega) (by omega)
    have e : ¬ nI (many (T p)) < nI (many (T p)) := nI_nlt (Nat.le_refl _) (by omega)
    obtain ⟨A, a1, a2, a3, a4, _⟩ := m152 hm (p := p) (f := 1) (b := 1) (by omega) (by omega) hp h1
    obtain ⟨B, b1, b2, b3, b4, b5⟩ := m155L hm (c := nI (T p)) hm3 (many (T p)) 0 (p + 1) N0 A (by omega) a2 a3 (Tx_f tx a4) (by omega) (fun i hi => absurd hi (Nat.not_lt_zero _))
    have ok := rdn_ok (T := T) (len := len) (many (T p)) 0 (p + 1) N0 hl
    have tB := Tx_f (Tx_f tx a4) b5
    have ms := fun Q => m151 (Q := Q) hm tB b2 ok.2.2
    generalize rdn T len (many (T p)) 0 (p + 1) N0 = R at *
    rcases sg_chr (T := T) (len := len) (p := R.2.1) (c := 59) tx.2.2.2 (by omega) with ⟨q0, q⟩ | ⟨q0, q⟩
    · obtain ⟨C, c1, c2, c3, c4, c5⟩ := m152 hm (p := R.2.1) (f := R.1) (b := 1) ok.1 (by omega) b2 b3
      rw [Nat.mul_one] at c2 c3
      have e2 : ¬ (R.1 = 1 ∧ chr T len R.2.1 59 = 0) := fun h => by omega
      rw [if_neg e2]
      refine ⟨C, fun Q => ?_, c2, c3, fun h i hi => by rw [c5]; exact b4 h i hi, TF_t a4 (TF_t b5 c4)⟩
      simp only [k155_0, k155_1, k155_4, k155_5, k155_6, k155_7, k155_10, k155_11, k155_14, k155_15, k155_18, k155_19, im_t106 hm, im_t107 hm, im_t108 hm, im_t109 hm, im_t110 hm, im_t111 hm, im_t112 hm, im_t113 hm, im_t114 hm, im_t115 hm, im_t116 hm, im_l107 hm, im_l108 hm, im_l109 hm, im_l110 hm, im_l111 hm, im_l112 hm, im_l113 hm, im_l114 hm, im_l115 hm, im_l116 hm, im_r0 hm, im_r1 hm, im_r2 hm, im_r3 hm, im_r5 hm, im_r7 hm, im_r14 hm, im_r15 hm, im_r16 hm, im_r22 hm, rf_s, pushR_s, pushR_n, le4_0, le4_1, le4_2, le4_3, le4_4, isLong_n, isLong_i, isLong_r, isLong_f, if_true, if_false, not_true_eq_false, not_false_eq_true, isI_0, isI_9, isAr_0, isAr_1, isAr_2, isAr_9, okR_i, okR_0, okR_1, putI_0, putI_b0, putI_b1, nI_10, nI_00, Nat.reduceLT, Nat.reduceLeDiff, nI_add, upM_s, upI_s, pk_mul, nf_at, m4, z, a1]
      rw [b1, k155_20]
      simp only [k155_21, k155_22, k155_25, k155_26, k155_29, k155_30, k155_31, k155_34, k155_36, k155_39, k155_40, k155_43, k155_44, k155_47, k155_48, k155_51, k155_52, k155_53, k155_56, k155_57, k155_60, k155_63, k155_64, k155_65, k155_68, k155_70, k155_73, k155_74, k155_77, k155_78, k155_81, im_t106 hm, im_t107 hm, im_t108 hm, im_t109 hm, im_t110 hm, im_t111 hm, im_t112 hm, im_t113 hm, im_t114 hm, im_t115 hm, im_t116 hm, im_l107 hm, im_l108 hm, im_l109 hm, im_l110 hm, im_l111 hm, im_l112 hm, im_l113 hm, im_l114 hm, im_l115 hm, im_l116 hm, im_r0 hm, im_r1 hm, im_r2 hm, im_r3 hm, im_r5 hm, im_r7 hm, im_r14 hm, im_r15 hm, im_r16 hm, im_r22 hm, rf_s, pushR_s, pushR_n, le4_0, le4_1, le4_2, le4_3, le4_4, isLong_n, isLong_i, isLong_r, isLong_f, if_true, if_false, not_true_eq_false, not_false_eq_true, isI_0, isI_9, isAr_0, isAr_1, isAr_2, isAr_9, okR_i, okR_0, okR_1, putI_0, putI_b0, putI_b1, nI_10, nI_00, Nat.reduceLT, Nat.reduceLeDiff, nI_add, upM_s, upI_s, pk_mul, nf_at, e, ms, q, c1]
    · obtain ⟨C, c1, c2, c3, c4, c5⟩ := m152 hm (p := R.2.1) (f := R.1) (b := 0) ok.1 (by omega) b2 b3
      rw [Nat.mul_zero] at c2 c3
      have fin : ∀ Q, wp 155 0 [some (.ref 106), some (.int (nI (T p))), none, none] [] σ M Q = Q none σ C := fun Q => by
        simp only [k155_0, k155_1, k155_4, k155_5, k155_6, k155_7, k155_10, k155_11, k155_14, k155_15, k155_18, k155_19, im_t106 hm, im_t107 hm, im_t108 hm, im_t109 hm, im_t110 hm, im_t111 hm, im_t112 hm, im_t113 hm, im_t114 hm, im_t115 hm, im_t116 hm, im_l107 hm, im_l108 hm, im_l109 hm, im_l110 hm, im_l111 hm, im_l112 hm, im_l113 hm, im_l114 hm, im_l115 hm, im_l116 hm, im_r0 hm, im_r1 hm, im_r2 hm, im_r3 hm, im_r5 hm, im_r7 hm, im_r14 hm, im_r15 hm, im_r16 hm, im_r22 hm, rf_s, pushR_s, pushR_n, le4_0, le4_1, le4_2, le4_3, le4_4, isLong_n, isLong_i, isLong_r, isLong_f, if_true, if_false, not_true_eq_false, not_false_eq_true, isI_0, isI_9, isAr_0, isAr_1, isAr_2, isAr_9, okR_i, okR_0, okR_1, putI_0, putI_b0, putI_b1, nI_10, nI_00, Nat.reduceLT, Nat.reduceLeDiff, nI_add, upM_s, upI_s, pk_mul, nf_at, m4, z, a1]
        rw [b1, k155_20]
        simp only [k155_21, k155_22, k155_25, k155_26, k155_29, k155_30, k155_31, k155_34, k155_36, k155_39, k155_40, k155_43, k155_44, k155_47, k155_48, k155_51, k155_52, k155_53, k155_56, k155_57, k155_60, k155_63, k155_64, k155_65, k155_68, k155_70, k155_73, k155_74, k155_77, k155_78, k155_81, im_t106 hm, im_t107 hm, im_t108 hm, im_t109 hm, im_t110 hm, im_t111 hm, im_t112 hm, im_t113 hm, im_t114 hm, im_t115 hm, im_t116 hm, im_l107 hm, im_l108 hm, im_l109 hm, im_l110 hm, im_l111 hm, im_l112 hm, im_l113 hm, im_l114 hm, im_l115 hm, im_l116 hm, im_r0 hm, im_r1 hm, im_r2 hm, im_r3 hm, im_r5 hm, im_r7 hm, im_r14 hm, im_r15 hm, im_r16 hm, im_r22 hm, rf_s, pushR_s, pushR_n, le4_0, le4_1, le4_2, le4_3, le4_4, isLong_n, isLong_i, isLong_r, isLong_f, if_true, if_false, not_true_eq_false, not_false_eq_true, isI_0, isI_9, isAr_0, isAr_1, isAr_2, isAr_9, okR_i, okR_0, okR_1, putI_0, putI_b0, putI_b1, nI_10, nI_00, Nat.reduceLT, Nat.reduceLeDiff, nI_add, upM_s, upI_s, pk_mul, nf_at, e, ms, q, c1]
      by_cases e2 : R.1 = 1
      · rw [if_pos ⟨e2, q0⟩]
        exact ⟨C, fin, c2, c3, fun h => absurd h (show ¬ 0 = 1 by decide), TF_t a4 (TF_t b5 c4)⟩
      · have e3 : R.1 = 0 := by omega
        rw [if_neg (fun h => e2 h.1)]
        refine ⟨C, fin, ?_, by rw [e3]; exact c3, fun h => absurd h e2, TF_t a4 (TF_t b5 c4)⟩
        show C 106 17 = nI (R.2.1 + R.1)
        rw [e3]; exact c2
/-- one order -/
def oOne (s : Nat → Nat) (c : Nat) (N : Nat → Nat) (r : Int32) (t : Nat → Nat) : Prop := (c = 112 ∧ oPath s (nI (N 0)) (nI (N 1)) (nI (N 2)) r t) ∨ (c = 99 ∧ oClose s (nI (N 0)) 1 r t) ∨ (c = 111 ∧ oClose s (nI (N 0)) 0 r t) ∨ (c = 102 ∧ oFood s (nI (N 0)) r t) ∨ (c = 115 ∧ oSet s (nI (N 0)) (nI (N 1)) r t) ∨ (c = 108 ∧ oLap s (nI (N 0)) r t)
theorem many_c {c : Nat} (h : many c ≠ 0) : c = 112 ∨ c = 99 ∨ c = 111 ∨ c = 102 ∨ c = 115 ∨ c = 108 := by
  unfold many at h
  split at h
  · omega
  · split at h
    · omega
    · split at h
      · omega
      · omega
theorem oOne_ex {s : Nat → Nat} (i : Inv s) {c : Nat} (h : many c ≠ 0) (N : Nat → Nat) : ∃ r t, oOne s c N r t := by
  rcases many_c h with e | e | e | e | e | e
  · obtain ⟨r, t, o⟩ := oPath_ex i (nI (N 0)) (nI (N 1)) (nI (N 2))
    exact ⟨r, t, Or.inl ⟨e, o⟩⟩
  · obtain ⟨r, t, o⟩ := oClose_ex (s := s) (nI (N 0)) 1
    exact ⟨r, t, Or.inr (Or.inl ⟨e, o⟩)⟩
  · obtain ⟨r, t, o⟩ := oClose_ex (s := s) (nI (N 0)) 0
    exact ⟨r, t, Or.inr (Or.inr (Or.inl ⟨e, o⟩))⟩
  · obtain ⟨r, t, o⟩ := oFood_ex (s := s) (nI (N 0))
    exact ⟨r, t, Or.inr (Or.inr (Or.inr (Or.inl ⟨e, o⟩)))⟩
  · obtain ⟨r, t, o⟩ := oSet_ex (s := s) (nI (N 0)) (nI (N 1))
    exact ⟨r, t, Or.inr (Or.inr (Or.inr (Or.inr (Or.inl ⟨e, o⟩))))⟩
  · obtain ⟨r, t, o⟩ := oLap_ex (s := s) (nI (N 0))
    exact ⟨r, t, Or.inr (Or.inr (Or.inr (Or.inr (Or.inr ⟨e, o⟩))))⟩
theorem oOne_inv {s : Nat → Nat} (i : Inv s) {c : Nat} {N : Nat → Nat} {r : Int32} {t : Nat → Nat} (o : oOne s c N r t) : Inv t ∧ (er r ∧ t = s ∨ nr r) := by
  rcases o with ⟨_, o⟩ | ⟨_, o⟩ | ⟨_, o⟩ | ⟨_, o⟩ | ⟨_, o⟩ | ⟨_, o⟩
  · exact oPath_inv i o
  · exact oClose_inv i (by omega) o
  · exact oClose_inv i (by omega) o
  · exact oFood_inv i o
  · exact oSet_inv i o
  · exact oLap_inv i o
theorem m156 (hm : IsM σ) {M : Mem} {s : Nat → Nat} (hs : M 107 = nf s) (i : Inv s) {c : Nat} {N : Nat → Nat} (hN : ∀ i, i < many c → M 116 i = nI (N i)) {r : Int32} {t : Nat → Nat} (o : oOne s c N r t) : ∃ M', (∀ Q, wp 156 0 [some (.ref 106), some (.int (nI c))] [] σ M Q = Q (some (.int r)) σ M') ∧ M' 107 = nf t ∧ (∀ o, o ≠ 106 → o ≠ 107 → o ≠ 113 → o ≠ 114 → o ≠ 115 → M' o = M o) ∧ (∀ i, i < 8 ∨ 13 < i → M' 106 i = M 106 i) := by
  rcases o with ⟨e, o⟩ | ⟨e, o⟩ | ⟨e, o⟩ | ⟨e, o⟩ | ⟨e, o⟩ | ⟨e, o⟩
  · subst e
    have h0 := hN 0 (by decide)
    have h1 := hN 1 (by decide)
    have h2 := hN 2 (by decide)
    have m := fun Q => m120 (Q := Q) hm hs i o
    refine ⟨upM M 107 (nf t), fun Q => ?_, upM_s, fun o _ h _ _ _ => upM_n h, fun _ _ => by rw [upM_n (by decide)]⟩
    simp only [k156_0, k156_1, k156_52, k156_53, k156_54, k156_57, k156_58, k156_59, k156_60, k156_63, k156_64, k156_65, k156_66, k156_69, k156_70, k156_71, k156_74, k156_75, k156_76, k156_77, k156_80, k156_81, k156_82, k156_83, k156_86, k156_87, k156_88, k156_89, k156_92, k156_93, k156_94, k156_95, k156_98, k156_99, k156_100, k156_101, k156_104, k156_105, k156_106, k156_109, k156_110, k156_111, k156_112, k156_115, k156_116, k156_117, k156_118, k156_121, k156_122, k156_123, k156_126, k156_127, k156_128, k156_129, k156_132, k156_133, k156_134, k156_137, im_t106 hm, im_t107 hm, im_t108 hm, im_t109 hm, im_t110 hm, im_t111 hm, im_t112 hm, im_t113 hm, im_t114 hm, im_t115 hm, im_t116 hm, im_l107 hm, im_l108 hm, im_l109 hm, im_l110 hm, im_l111 hm, im_l112 hm, im_l113 hm, im_l114 hm, im_l115 hm, im_l116 hm, im_r0 hm, im_r1 hm, im_r2 hm, im_r3 hm, im_r5 hm, im_r7 hm, im_r14 hm, im_r15 hm, im_r16 hm, im_r22 hm, rf_s, pushR_s, pushR_n, le4_0, le4_1, le4_2, le4_3, le4_4, isLong_n, isLong_i, isLong_r, isLong_f, if_true, if_false, not_true_eq_false, not_false_eq_true, isI_0, isI_9, isAr_0, isAr_1, isAr_2, isAr_9, okR_i, okR_0, okR_1, putI_0, putI_b0, putI_b1, nI_10, nI_00, Nat.reduceLT, Nat.reduceLeDiff, nI_add, upM_s, upI_s, pk_mul, nf_at, nI_lit, Nat.reduceEqDiff, h0, h1, h2, m]
  · subst e
    have h0 := hN 0 (by decide)
    have m := fun Q => m121 (Q := Q) hm hs i (by omega) o
    refine ⟨upM M 107 (nf t), fun Q => ?_, upM_s, fun o _ h _ _ _ => upM_n h, fun _ _ => by rw [upM_n (by decide)]⟩
    simp only [k156_0, k156_1, k156_52, k156_53, k156_54, k156_57, k156_58, k156_59, k156_60, k156_63, k156_64, k156_65, k156_66, k156_69, k156_70, k156_71, k156_74, k156_75, k156_76, k156_77, k156_80, k156_81, k156_82, k156_83, k156_86, k156_87, k156_88, k156_89, k156_92, k156_93, k156_94, k156_95, k156_98, k156_99, k156_100, k156_101, k156_104, k156_105, k156_106, k156_109, k156_110, k156_111, k156_112, k156_115, k156_116, k156_117, k156_118, k156_121, k156_122, k156_123, k156_126, k156_127, k156_128, k156_129, k156_132, k156_133, k156_134, k156_137, im_t106 hm, im_t107 hm, im_t108 hm, im_t109 hm, im_t110 hm, im_t111 hm, im_t112 hm, im_t113 hm, im_t114 hm, im_t115 hm, im_t116 hm, im_l107 hm, im_l108 hm, im_l109 hm, im_l110 hm, im_l111 hm, im_l112 hm, im_l113 hm, im_l114 hm, im_l115 hm, im_l116 hm, im_r0 hm, im_r1 hm, im_r2 hm, im_r3 hm, im_r5 hm, im_r7 hm, im_r14 hm, im_r15 hm, im_r16 hm, im_r22 hm, rf_s, pushR_s, pushR_n, le4_0, le4_1, le4_2, le4_3, le4_4, isLong_n, isLong_i, isLong_r, isLong_f, if_true, if_false, not_true_eq_false, not_false_eq_true, isI_0, isI_9, isAr_0, isAr_1, isAr_2, isAr_9, okR_i, okR_0, okR_1, putI_0, putI_b0, putI_b1, nI_10, nI_00, Nat.reduceLT, Nat.reduceLeDiff, nI_add, upM_s, upI_s, pk_mul, nf_at, nI_lit, Nat.reduceEqDiff, h0, m]
  · subst e
    have h0 := hN 0 (by decide)
    have m := fun Q => m121 (Q := Q) hm hs i (by omega) o
    refine ⟨upM M 107 (nf t), fun Q => ?_, upM_s, fun o _ h _ _ _ => upM_n h, fun _ _ => by rw [upM_n (by decide)]⟩
    simp only [k156_0, k156_1, k156_52, k156_53, k156_54, k156_57, k156_58, k156_59, k156_60, k156_63, k156_64, k156_65, k156_66, k156_69, k156_70, k156_71, k156_74, k156_75, k156_76, k156_77, k156_80, k156_81, k156_82, k156_83, k156_86, k156_87, k156_88, k156_89, k156_92, k156_93, k156_94, k156_95, k156_98, k156_99, k156_100, k156_101, k156_104, k156_105, k156_106, k156_109, k156_110, k156_111, k156_112, k156_115, k156_116, k156_117, k156_118, k156_121, k156_122, k156_123, k156_126, k156_127, k156_128, k156_129, k156_132, k156_133, k156_134, k156_137, im_t106 hm, im_t107 hm, im_t108 hm, im_t109 hm, im_t110 hm, im_t111 hm, im_t112 hm, im_t113 hm, im_t114 hm, im_t115 hm, im_t116 hm, im_l107 hm, im_l108 hm, im_l109 hm, im_l110 hm, im_l111 hm, im_l112 hm, im_l113 hm, im_l114 hm, im_l115 hm, im_l116 hm, im_r0 hm, im_r1 hm, im_r2 hm, im_r3 hm, im_r5 hm, im_r7 hm, im_r14 hm, im_r15 hm, im_r16 hm, im_r22 hm, rf_s, pushR_s, pushR_n, le4_0, le4_1, le4_2, le4_3, le4_4, isLong_n, isLong_i, isLong_r, isLong_f, if_true, if_false, not_true_eq_false, not_false_eq_true, isI_0, isI_9, isAr_0, isAr_1, isAr_2, isAr_9, okR_i, okR_0, okR_1, putI_0, putI_b0, putI_b1, nI_10, nI_00, Nat.reduceLT, Nat.reduceLeDiff, nI_add, upM_s, upI_s, pk_mul, nf_at, nI_lit, Nat.reduceEqDiff, h0, m]
  · subst e
    have h0 := hN 0 (by decide)
    have m := fun Q => m122 (Q := Q) hm hs i o
    refine ⟨upM M 107 (nf t), fun Q => ?_, upM_s, fun o _ h _ _ _ => upM_n h, fun _ _ => by rw [upM_n (by decide)]⟩
    simp only [k156_0, k156_1, k156_52, k156_53, k156_54, k156_57, k156_58, k156_59, k156_60, k156_63, k156_64, k156_65, k156_66, k156_69, k156_70, k156_71, k156_74, k156_75, k156_76, k156_77, k156_80, k156_81, k156_82, k156_83, k156_86, k156_87, k156_88, k156_89, k156_92, k156_93, k156_94, k156_95, k156_98, k156_99, k156_100, k156_101, k156_104, k156_105, k156_106, k156_109, k156_110, k156_111, k156_112, k156_115, k156_116, k156_117, k156_118, k156_121, k156_122, k156_123, k156_126, k156_127, k156_128, k156_129, k156_132, k156_133, k156_134, k156_137, im_t106 hm, im_t107 hm, im_t108 hm, im_t109 hm, im_t110 hm, im_t111 hm, im_t112 hm, im_t113 hm, im_t114 hm, im_t115 hm, im_t116 hm, im_l107 hm, im_l108 hm, im_l109 hm, im_l110 hm, im_l111 hm, im_l112 hm, im_l113 hm, im_l114 hm, im_l115 hm, im_l116 hm, im_r0 hm, im_r1 hm, im_r2 hm, im_r3 hm, im_r5 hm, im_r7 hm, im_r14 hm, im_r15 hm, im_r16 hm, im_r22 hm, rf_s, pushR_s, pushR_n, le4_0, le4_1, le4_2, le4_3, le4_4, isLong_n, isLong_i, isLong_r, isLong_f, if_true, if_false, not_true_eq_false, not_false_eq_true, isI_0, isI_9, isAr_0, isAr_1, isAr_2, isAr_9, okR_i, okR_0, okR_1, putI_0, putI_b0, putI_b1, nI_10, nI_00, Nat.reduceLT, Nat.reduceLeDiff, nI_add, upM_s, upI_s, pk_mul, nf_at, nI_lit, Nat.reduceEqDiff, h0, m]
  · subst e
    have h0 := hN 0 (by decide)
    have h1 := hN 1 (by decide)
    have m := fun Q => m125 (Q := Q) hm hs o
    refine ⟨upM M 107 (nf t), fun Q => ?_, upM_s, fun o _ h _ _ _ => upM_n h, fun _ _ => by rw [upM_n (by decide)]⟩
    simp only [k156_0, k156_1, k156_52, k156_53, k156_54, k156_57, k156_58, k156_59, k156_60, k156_63, k156_64, k156_65, k156_66, k156_69, k156_70, k156_71, k156_74, k156_75, k156_76, k156_77, k156_80, k156_81, k156_82, k156_83, k156_86, k156_87, k156_88, k156_89, k156_92, k156_93, k156_94, k156_95, k156_98, k156_99, k156_100, k156_101, k156_104, k156_105, k156_106, k156_109, k156_110, k156_111, k156_112, k156_115, k156_116, k156_117, k156_118, k156_121, k156_122, k156_123, k156_126, k156_127, k156_128, k156_129, k156_132, k156_133, k156_134, k156_137, im_t106 hm, im_t107 hm, im_t108 hm, im_t109 hm, im_t110 hm, im_t111 hm, im_t112 hm, im_t113 hm, im_t114 hm, im_t115 hm, im_t116 hm, im_l107 hm, im_l108 hm, im_l109 hm, im_l110 hm, im_l111 hm, im_l112 hm, im_l113 hm, im_l114 hm, im_l115 hm, im_l116 hm, im_r0 hm, im_r1 hm, im_r2 hm, im_r3 hm, im_r5 hm, im_r7 hm, im_r14 hm, im_r15 hm, im_r16 hm, im_r22 hm, rf_s, pushR_s, pushR_n, le4_0, le4_1, le4_2, le4_3, le4_4, isLong_n, isLong_i, isLong_r, isLong_f, if_true, if_false, not_true_eq_false, not_false_eq_true, isI_0, isI_9, isAr_0, isAr_1, isAr_2, isAr_9, okR_i, okR_0, okR_1, putI_0, putI_b0, putI_b1, nI_10, nI_00, Nat.reduceLT, Nat.reduceLeDiff, nI_add, upM_s, upI_s, pk_mul, nf_at, nI_lit, Nat.reduceEqDiff, h0, h1, m]
  · subst e
    have h0 := hN 0 (by decide)
    obtain ⟨M', a1, a2, a3, a4⟩ := m123 hm hs i o
    refine ⟨M', fun Q => ?_, a2, a3, a4⟩
    simp only [k156_0, k156_1, k156_52, k156_53, k156_54, k156_57, k156_58, k156_59, k156_60, k156_63, k156_64, k156_65, k156_66, k156_69, k156_70, k156_71, k156_74, k156_75, k156_76, k156_77, k156_80, k156_81, k156_82, k156_83, k156_86, k156_87, k156_88, k156_89, k156_92, k156_93, k156_94, k156_95, k156_98, k156_99, k156_100, k156_101, k156_104, k156_105, k156_106, k156_109, k156_110, k156_111, k156_112, k156_115, k156_116, k156_117, k156_118, k156_121, k156_122, k156_123, k156_126, k156_127, k156_128, k156_129, k156_132, k156_133, k156_134, k156_137, im_t106 hm, im_t107 hm, im_t108 hm, im_t109 hm, im_t110 hm, im_t111 hm, im_t112 hm, im_t113 hm, im_t114 hm, im_t115 hm, im_t116 hm, im_l107 hm, im_l108 hm, im_l109 hm, im_l110 hm, im_l111 hm, im_l112 hm, im_l113 hm, im_l114 hm, im_l115 hm, im_l116 hm, im_r0 hm, im_r1 hm, im_r2 hm, im_r3 hm, im_r5 hm, im_r7 hm, im_r14 hm, im_r15 hm, im_r16 hm, im_r22 hm, rf_s, pushR_s, pushR_n, le4_0, le4_1, le4_2, le4_3, le4_4, isLong_n, isLong_i, isLong_r, isLong_f, if_true, if_false, not_true_eq_false, not_false_eq_true, isI_0, isI_9, isAr_0, isAr_1, isAr_2, isAr_9, okR_i, okR_0, okR_1, putI_0, putI_b0, putI_b1, nI_10, nI_00, Nat.reduceLT, Nat.reduceLeDiff, nI_add, upM_s, upI_s, pk_mul, nf_at, nI_lit, Nat.reduceEqDiff, h0, a1]
/-- all orders, up to the first that is not possible: its kind of fault (0 for none), where, the cause; how many were done -/
def Run (T : Nat → Nat) (len : Nat) : Nat → (Nat → Nat) → Nat → Nat → Nat × Nat × Int32 × Nat → (Nat → Nat) → Prop
  | 0, _, _, _, _, _ => False
  | f + 1, s, p, d, u, t => (len ≤ p ∧ u = (0, 0, 0, d) ∧ t = s) ∨ (p < len ∧ (pf T len p N0).1 = 0 ∧ u = (1, p, nI ((pf T len p N0).2.1 - p), d) ∧ t = s) ∨ (p < len ∧ (pf T len p N0).1 = 1 ∧ ∃ r s1, oOne s (T p) (pf T len p N0).2.2 r s1 ∧ ((er r ∧ u = (2, p, r, d) ∧ t = s1) ∨ (nr r ∧ Run T len f s1 (pf T len p N0).2.1 (d + 1) u t)))
theorem Run_ex : ∀ (f : Nat) (s : Nat → Nat) (p d : Nat), Inv s → p ≤ len → len < p + f → ∃ u t, Run T len f s p d u t
  | 0, s, p, d, i, hl, h => by omega
  | f + 1, s, p, d, i, hl, h => by
    by_cases c : len ≤ p
    · exact ⟨_, _, Or.inl ⟨c, rfl, rfl⟩⟩
    · have ok := pf_ok (T := T) (len := len) (p := p) (N := N0) (by omega)
      by_cases c2 : (pf T len p N0).1 = 0
      · exact ⟨_, _, Or.inr (Or.inl ⟨by omega, c2, rfl, rfl⟩)⟩
      · have c3 : (pf T len p N0).1 = 1 := by omega
        obtain ⟨ok1, ok2⟩ := ok.2.2.2 c3
        obtain ⟨r, s1, o⟩ := oOne_ex i ok2 (pf T len p N0).2.2
        obtain ⟨j, q⟩ := oOne_inv i o
        by_cases c4 : er r
        · exact ⟨_, _, Or.inr (Or.inr ⟨by omega, c3, r, s1, o, Or.inl ⟨c4, rfl, rfl⟩⟩)⟩
        · have c5 : nr r := by
            rcases q with q | q
            · exact absurd q.1 c4
            · exact q
          obtain ⟨u, t, h2⟩ := Run_ex f s1 (pf T len p N0).2.1 (d + 1) j ok.2.2.1 (by omega)
          exact ⟨u, t, Or.inr (Or.inr ⟨by omega, c3, r, s1, o, Or.inr ⟨c5, h2⟩⟩)⟩
theorem Run_inv : ∀ (f : Nat) (s : Nat → Nat) (p d : Nat) (u : Nat × Nat × Int32 × Nat) (t : Nat → Nat), Inv s → Run T len f s p d u t → Inv t ∧ u.1 ≤ 2 ∧ u.2.2.2 ≤ d + f
  | 0, s, p, d, u, t, i, h => h.elim
  | f + 1, s, p, d, u, t, i, h => by
    rcases h with ⟨h1, h2, h3⟩ | ⟨h1, h2, h3, h4⟩ | ⟨h1, h2, r, s1, o, ⟨h3, h4, h5⟩ | ⟨h3, h4⟩⟩
    · rw [h2, h3]; exact ⟨i, show 0 ≤ 2 by omega, show d ≤ d + (f + 1) by omega⟩
    · rw [h3, h4]; exact ⟨i, show 1 ≤ 2 by omega, show d ≤ d + (f + 1) by omega⟩
    · rw [h4, h5]; exact ⟨(oOne_inv i o).1, show 2 ≤ 2 by omega, show d ≤ d + (f + 1) by omega⟩
    · obtain ⟨a, b, c⟩ := Run_inv f s1 _ (d + 1) u t (oOne_inv i o).1 h4
      exact ⟨a, b, by omega⟩
theorem m157L (hm : IsM σ) : ∀ (f : Nat) (s : Nat → Nat) (p d : Nat) (u : Nat × Nat × Int32 × Nat) (t : Nat → Nat) (M : Mem) (l1 : Option Value), Run T len f s p d u t → Inv s → M 107 = nf s → M 106 17 = nI p → M 106 19 = nI d → Tx M len T → p ≤ len → ∃ M', (∀ Q, wp 157 10 [some (.ref 106), l1] [] σ M Q = Q (some (.int (if u.1 = 0 then nI 1 else nI 0))) σ M') ∧ M' 107 = nf t ∧ (u.1 = 0 → M' 106 19 = nI u.2.2.2) ∧ (u.1 = 1 → M' 106 21 = nI 0 ∧ M' 106 18 = nI u.2.1 ∧ ∃ q, M' 106 17 = nI q ∧ u.2.1 ≤ q ∧ u.2.2.1 = nI (q - u.2.1)) ∧ (u.1 = 2 → M' 106 21 = nI 1 ∧ M' 106 18 = nI u.2.1 ∧ M' 106 20 = u.2.2.1) ∧ (∀ o, o ≠ 106 → o ≠ 107 → o ≠ 113 → o ≠ 114 → o ≠ 115 → o ≠ 116 → M' o = M o) ∧ (∀ i, i < 8 → M' 106 i = M 106 i)
  | 0, s, p, d, u, t, M, l1, h, _, _, _, _, _, _ => h.elim
  | f + 1, s, p, d, u, t, M, l1, h, i, hs, hp, hd, tx, hl => by
    have t1 := tx.1
    have t3 := tx.2.2.1
    by_cases c : p < len
    · have e : nI p < nI len := nI_lt c (by omega)
      have ms : ∀ (N : Mem) (tx : Tx N len T) (hp : N 106 17 = nI p) Q, wp 151 0 [some (.ref 106)] [] σ N Q = Q (some (.int (nI (T p)))) σ N := fun N tx hp Q => by
        rw [m151 hm tx hp hl]
        unfold sgR
        rw [if_pos c]
      have w1 : ∀ (x y : Int32) (F : Nat → Int32), upI (upI F 18 x) 21 y 17 = F 17 := fun x y F => rfl
      have hA : TF M (upM M 106 (upI (M 106) 21 (nI 1))) := ⟨fun o h _ => upM_n h, fun i _ h => by rw [upM_s, upI_n h]⟩
      -- behind 'from' and 'isForm'
      have a0 : ∀ o, o ≠ 106 → upM M 106 (upI (upI (M 106) 18 (nI p)) 21 (nI 1)) o = M o := fun o h => upM_n h
      have txN : Tx (upM M 106 (upI (upI (M 106) 18 (nI p)) 21 (nI 1))) len T := ⟨t1, tx.2.1, tx.2.2⟩
      have txN1 : Tx (upM M 106 (upI (M 106) 18 (nI p))) len T := ⟨t1, tx.2.1, tx.2.2⟩
      have ms1 := ms _ txN1 hp
      obtain ⟨A, a1, a2, a3, a4, a5⟩ := m155 hm (M := upM M 106 (upI (upI (M 106) 18 (nI p)) 21 (nI 1))) (p := p) hp (by rw [upM_s, upI_s]) txN c
      have ok := pf_ok (T := T) (len := len) (p := p) (N := N0) c
      have A18 : A 106 18 = nI p := by rw [a5.2 18 (by decide) (by decide)]; rfl
      have A19 : A 106 19 = nI d := by rw [a5.2 19 (by decide) (by decide)]; exact hd
      have A107 : A 107 = nf s := by rw [a5.1 107 (by decide) (by decide)]; exact hs
      have fr : ∀ o, o ≠ 106 → o ≠ 116 → A o = M o := fun o h h2 => by rw [a5.1 o h h2]; exact upM_n h
      have fi : ∀ i, i < 8 → A 106 i = M 106 i := fun i h => by rw [a5.2 i (by omega) (by omega), upM_s, upI_n (by omega), upI_n (by omega)]
      rcases h with ⟨h1, h2, h3⟩ | ⟨h1, h2, h3, h4⟩ | ⟨h1, h2, r, s1, o, h⟩
      · omega
      · subst h3 h4
        rw [h2] at a3
        have z : er (-1000000004) := Or.inr (Or.inr (Or.inr rfl))
        refine ⟨upM A 106 (upI (A 106) 20 (-1000000004)), fun Q => ?_, A107, fun h => absurd h (show ¬ 1 = 0 by decide), fun _ => ⟨a3, A18, _, a2, ok.2.1, rfl⟩, fun h => absurd h (show ¬ 1 = 2 by decide), fun o h _ _ _ _ h2 => by rw [upM_n h]; exact fr o h h2, fun i h => by rw [upM_s, upI_n (by omega)]; exact fi i h⟩
        have m96 := fun (N : Mem) Q => m96e (σ := σ) (M := N) z Q
        rw [k157_10]
        simp only [k157_11, k157_14, k157_15, k157_18, k157_21, k157_22, k157_23, k157_26, k157_29, k157_30, k157_33, k157_34, k157_35, k157_36, k157_39, k157_40, k157_41, k157_44, k157_45, k157_46, k157_49, k157_52, k157_53, k157_54, k157_57, k157_60, k157_62, k157_65, k157_66, k157_69, k157_72, k157_75, k157_76, im_t106 hm, im_t107 hm, im_t108 hm, im_t109 hm, im_t110 hm, im_t111 hm, im_t112 hm, im_t113 hm, im_t114 hm, im_t115 hm, im_t116 hm, im_l107 hm, im_l108 hm, im_l109 hm, im_l110 hm, im_l111 hm, im_l112 hm, im_l113 hm, im_l114 hm, im_l115 hm, im_l116 hm, im_r0 hm, im_r1 hm, im_r2 hm, im_r3 hm, im_r5 hm, im_r7 hm, im_r14 hm, im_r15 hm, im_r16 hm, im_r22 hm, rf_s, pushR_s, pushR_n, le4_0, le4_1, le4_2, le4_3, le4_4, isLong_n, isLong_i, isLong_r, isLong_f, if_true, if_false, not_true_eq_false, not_false_eq_true, isI_0, isI_9, isAr_0, isAr_1, isAr_2, isAr_9, okR_i, okR_0, okR_1, putI_0, putI_b0, putI_b1, nI_10, nI_00, Nat.reduceLT, Nat.reduceLeDiff, nI_add, upM_s, upI_s, pk_mul, nf_at, hp, t1, e, ms1, a1, a3, m96, Nat.reduceEqDiff, upM_up]
      · have b2 := a4 h2
        rw [h2] at a3
        obtain ⟨B, b3, b4, b5, b6⟩ := m156 hm A107 i b2 o
        have hr : er r ∨ nr r := by
          rcases h with h | h
          · exact Or.inl h.1
          · exact Or.inr h.1
        rcases h with ⟨h3, h4, h5⟩ | ⟨h3, h4⟩
        · subst h4 h5
          have m96 := fun (N : Mem) Q => m96e (σ := σ) (M := N) h3 Q
          refine ⟨upM B 106 (upI (B 106) 20 r), fun Q => ?_, b4, fun h => absurd h (show ¬ 2 = 0 by decide), fun h => absurd h (show ¬ 2 = 1 by decide), fun _ => ⟨?_, ?_, ?_⟩, fun o h h2 h3 h4 h5 h6 => ?_, fun i h => ?_⟩
          · rw [k157_10]
            simp only [k157_11, k157_14, k157_15, k157_18, k157_21, k157_22, k157_23, k157_26, k157_29, k157_30, k157_33, k157_34, k157_35, k157_36, k157_39, k157_40, k157_41, k157_44, k157_45, k157_46, k157_49, k157_52, k157_53, k157_54, k157_57, k157_60, k157_62, k157_65, k157_66, k157_69, k157_72, k157_75, k157_76, im_t106 hm, im_t107 hm, im_t108 hm, im_t109 hm, im_t110 hm, im_t111 hm, im_t112 hm, im_t113 hm, im_t114 hm, im_t115 hm, im_t116 hm, im_l107 hm, im_l108 hm, im_l109 hm, im_l110 hm, im_l111 hm, im_l112 hm, im_l113 hm, im_l114 hm, im_l115 hm, im_l116 hm, im_r0 hm, im_r1 hm, im_r2 hm, im_r3 hm, im_r5 hm, im_r7 hm, im_r14 hm, im_r15 hm, im_r16 hm, im_r22 hm, rf_s, pushR_s, pushR_n, le4_0, le4_1, le4_2, le4_3, le4_4, isLong_n, isLong_i, isLong_r, isLong_f, if_true, if_false, not_true_eq_false, not_false_eq_true, isI_0, isI_9, isAr_0, isAr_1, isAr_2, isAr_9, okR_i, okR_0, okR_1, putI_0, putI_b0, putI_b1, nI_10, nI_00, Nat.reduceLT, Nat.reduceLeDiff, nI_add, upM_s, upI_s, pk_mul, nf_at, hp, t1, e, ms1, a1, a3, b3, m96, Nat.reduceEqDiff, upM_up]
          · rw [upM_s, upI_n (by decide), b6 21 (by omega)]; exact a3
          · rw [upM_s, upI_n (by decide), b6 18 (by omega)]; exact A18
          · rw [upM_s, upI_s]
          · rw [upM_n h, b5 o h h2 h3 h4 h5]; exact fr o h h6
          · rw [upM_s, upI_n (by omega), b6 i (by omega)]; exact fi i h
        · have m96 := fun (N : Mem) Q => m96n (σ := σ) (M := N) h3 Q
          have B19 : B 106 19 = nI d := by rw [b6 19 (by omega)]; exact A19
          have w2 : ∀ (F : Nat → Int32) (x : Int32), upI F 20 x 19 = F 19 := fun F x => rfl
          have j := (oOne_inv i o).1
          obtain ⟨M', d1, d2, d3, d4, d5, d6, d7⟩ := m157L hm f s1 (pf T len p N0).2.1 (d + 1) u t (upM B 106 (upI (upI (B 106) 20 r) 19 (nI (d + 1)))) (some (.int (nI (T p)))) h4 j b4 (by rw [upM_s, upI_n (by decide), upI_n (by decide), b6 17 (by omega)]; exact a2) (by rw [upM_s, upI_s]) ⟨by rw [upM_s, upI_n (by decide), upI_n (by decide), b6 6 (by omega), fi 6 (by omega)]; exact t1, fun j hj => by rw [upM_n (by decide), b5 111 (by decide) (by decide) (by decide) (by decide) (by decide), fr 111 (by decide) (by decide)]; exact tx.2.1 j hj, tx.2.2⟩ ok.2.2.1
          refine ⟨M', fun Q => ?_, d2, d3, d4, d5, fun o h h2 h3 h4 h5 h6 => ?_, fun i h => ?_⟩
          · refine Eq.trans ?_ (d1 Q)
            rw [k157_10]
            simp only [k157_11, k157_14, k157_15, k157_18, k157_21, k157_22, k157_23, k157_26, k157_29, k157_30, k157_33, k157_34, k157_35, k157_36, k157_39, k157_40, k157_41, k157_44, k157_45, k157_46, k157_49, k157_52, k157_53, k157_54, k157_57, k157_60, k157_62, k157_65, k157_66, k157_69, k157_72, k157_75, k157_76, k157_77, k157_78i, k157_78r, k157_78f, k157_79, k157_82, k157_83, k157_84, k157_87, im_t106 hm, im_t107 hm, im_t108 hm, im_t109 hm, im_t110 hm, im_t111 hm, im_t112 hm, im_t113 hm, im_t114 hm, im_t115 hm, im_t116 hm, im_l107 hm, im_l108 hm, im_l109 hm, im_l110 hm, im_l111 hm, im_l112 hm, im_l113 hm, im_l114 hm, im_l115 hm, im_l116 hm, im_r0 hm, im_r1 hm, im_r2 hm, im_r3 hm, im_r5 hm, im_r7 hm, im_r14 hm, im_r15 hm, im_r16 hm, im_r22 hm, rf_s, pushR_s, pushR_n, le4_0, le4_1, le4_2, le4_3, le4_4, isLong_n, isLong_i, isLong_r, isLong_f, if_true, if_false, not_true_eq_false, not_false_eq_true, isI_0, isI_9, isAr_0, isAr_1, isAr_2, isAr_9, okR_i, okR_0, okR_1, putI_0, putI_b0, putI_b1, nI_10, nI_00, Nat.reduceLT, Nat.reduceLeDiff, nI_add, upM_s, upI_s, pk_mul, nf_at, hp, t1, e, ms1, a1, a3, b3, m96, B19, w2, upM_up]
          · rw [d6 o h h2 h3 h4 h5 h6, upM_n h, b5 o h h2 h3 h4 h5]; exact fr o h h6
          · rw [d7 i h, upM_s, upI_n (by omega), upI_n (by omega), b6 i (by omega)]; exact fi i h
    · have e : ¬ nI p < nI len := nI_nlt (by omega) (by omega)
      rcases h with ⟨h1, h2, h3⟩ | ⟨h1, h2, h3, h4⟩ | ⟨h1, h2, r, s1, o, h⟩
      · subst h2 h3
        refine ⟨M, fun Q => ?_, hs, fun _ => hd, fun h => absurd h (show ¬ 0 = 1 by decide), fun h => absurd h (show ¬ 0 = 2 by decide), fun _ _ _ _ _ _ _ => rfl, fun _ _ => rfl⟩
        rw [k157_10]
        simp only [k157_11, k157_14, k157_15, k157_18, k157_21, k157_22, k157_23, k157_26, k157_29, k157_30, k157_33, k157_34, k157_35, k157_36, k157_39, k157_40, k157_41, k157_44, k157_45, k157_46, k157_49, k157_52, k157_53, k157_54, k157_57, k157_60, k157_62, k157_65, k157_66, k157_69, k157_72, k157_75, k157_76, k157_77, k157_78i, k157_78r, k157_78f, k157_79, k157_82, k157_83, k157_84, k157_87, k157_90, k157_91, im_t106 hm, im_t107 hm, im_t108 hm, im_t109 hm, im_t110 hm, im_t111 hm, im_t112 hm, im_t113 hm, im_t114 hm, im_t115 hm, im_t116 hm, im_l107 hm, im_l108 hm, im_l109 hm, im_l110 hm, im_l111 hm, im_l112 hm, im_l113 hm, im_l114 hm, im_l115 hm, im_l116 hm, im_r0 hm, im_r1 hm, im_r2 hm, im_r3 hm, im_r5 hm, im_r7 hm, im_r14 hm, im_r15 hm, im_r16 hm, im_r22 hm, rf_s, pushR_s, pushR_n, le4_0, le4_1, le4_2, le4_3, le4_4, isLong_n, isLong_i, isLong_r, isLong_f, if_true, if_false, not_true_eq_false, not_false_eq_true, isI_0, isI_9, isAr_0, isAr_1, isAr_2, isAr_9, okR_i, okR_0, okR_1, putI_0, putI_b0, putI_b1, nI_10, nI_00, Nat.reduceLT, Nat.reduceLeDiff, nI_add, upM_s, upI_s, pk_mul, nf_at, hp, t1, e]
      · exact absurd h1 c
      · exact absurd h1 c
end TXT
