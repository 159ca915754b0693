section TXD
variable {σ : Sg} {len : Nat} {T : Nat → Nat}
theorem c75 {M : Mem} {c : Nat} (hc : c < 200) (Q : Po) : wp 75 0 [some (.int (nI c))] [] σ M Q = Q (some (.int (nI (many c)))) σ M := by
  by_cases o : c < 99 ∨ 115 < c
  · have n : ∀ w, 99 ≤ w → w ≤ 115 → ¬ nI c = nI w := fun w h1 h2 => ne_n (by omega) (by omega) (by omega)
    have e : many c = 0 := by
      unfold many
      rw [if_neg (by omega), if_neg (by omega), if_neg (by omega)]
    simp only [k75_0, k75_1, k75_84, k75_85, k75_86, k75_87, k75_88, k75_89, k75_90, k75_91, rf_s, pushR_s, pushR_n, le4_0, le4_1, le4_2, le4_3, le4_4, isLong_n, isLong_i, isLong_r, isLong_f, if_true, if_false, not_true_eq_false, not_false_eq_true, isI_0, isI_9, isAr_0, isAr_1, isAr_2, isAr_9, okR_i, okR_0, okR_1, putI_0, putI_b0, putI_b1, nI_10, nI_00, Nat.reduceLT, Nat.reduceLeDiff, nI_add, upM_s, upI_s, pk_mul, nf_at, e, n 99 (by omega) (by omega), n 100 (by omega) (by omega), n 101 (by omega) (by omega), n 102 (by omega) (by omega), n 103 (by omega) (by omega), n 104 (by omega) (by omega), n 105 (by omega) (by omega), n 106 (by omega) (by omega), n 107 (by omega) (by omega), n 108 (by omega) (by omega), n 109 (by omega) (by omega), n 110 (by omega) (by omega), n 111 (by omega) (by omega), n 112 (by omega) (by omega), n 113 (by omega) (by omega), n 114 (by omega) (by omega), n 115 (by omega) (by omega)]
  · rcases (show c = 99 ∨ c = 100 ∨ c = 101 ∨ c = 102 ∨ c = 103 ∨ c = 104 ∨ c = 105 ∨ c = 106 ∨ c = 107 ∨ c = 108 ∨ c = 109 ∨ c = 110 ∨ c = 111 ∨ c = 112 ∨ c = 113 ∨ c = 114 ∨ c = 115 by omega) with e | e | e | e | e | e | e | e | e | e | e | e | e | e | e | e | e <;> subst e <;> simp only [k75_0, k75_1, k75_84, k75_85, k75_86, k75_87, k75_88, k75_89, k75_90, k75_91, rf_s, pushR_s, pushR_n, le4_0, le4_1, le4_2, le4_3, le4_4, isLong_n, isLong_i, isLong_r, isLong_f, if_true, if_false, not_true_eq_false, not_false_eq_true, isI_0, isI_9, isAr_0, isAr_1, isAr_2, isAr_9, okR_i, okR_0, okR_1, putI_0, putI_b0, putI_b1, nI_10, nI_00, Nat.reduceLT, Nat.reduceLeDiff, nI_add, upM_s, upI_s, pk_mul, nf_at, nI_lit, Nat.reduceEqDiff, many, or_true, true_or, or_false, false_or]
/-- the last sign behind the numbers of an order -/
def fl (T : Nat → Nat) (len : Nat) (R : Nat × Nat × (Nat → Nat)) : Nat := if R.1 = 1 ∧ chr T len R.2.1 59 = 0 then 0 else R.1
theorem fl_1 {p : Nat} {N : Nat → Nat} : fl T len (1, p, N) = chr T len p 59 := by
  unfold fl
  by_cases c : chr T len p 59 = 0
  · exact (if_pos ⟨rfl, c⟩).trans c.symm
  · exact (if_neg (fun h => c h.2)).trans (chr_1 c).2.2.symm
theorem fl_0 {p : Nat} {N : Nat → Nat} : fl T len (0, p, N) = 0 := if_neg (fun h => absurd (show 0 = 1 from h.1) (by decide))
theorem c74L (hd : IsD σ) {st : Int32} {m : Nat} (hm3 : m ≤ 3) : ∀ (j k p : Nat) (N : Nat → Nat) (M : Mem), k + j = m → M 103 4 = nI p → Ty M len T → p ≤ len → (∀ i, i < k → M 105 i = nI (N i)) → ∃ M', (∀ Q, wp 74 39 [some (.ref 103), some (.int st), some (.int (nI m)), some (.int (nI k))] [] σ M Q = Q (some (.int (nI (fl T len (rdn T len j k p N))))) σ M') ∧ M' 103 4 = nI ((rdn T len j k p N).2.1 + fl T len (rdn T len j k p N)) ∧ (fl T len (rdn T len j k p N) = 1 → ∀ i, i < m → M' 105 i = nI ((rdn T len j k p N).2.2 i)) ∧ TD M M'
  | 0, k, p, N, M, hk, hp, ty, hl, hN => by
    have e : k = m := by omega
    subst e
    have z : ¬ nI k < nI k := nI_nlt (Nat.le_refl _) (by omega)
    have e2 : fl T len (rdn T len 0 k p N) = chr T len p 59 := fl_1
    rw [e2]
    by_cases c : chr T len p 59 = 0
    · have m77 := fun Q => c77n (Q := Q) hd ty hp hl (c := 59) (by omega) (by omega) c
      rw [c]
      refine ⟨M, fun Q => ?_, hp, fun h => absurd h (show ¬ 0 = 1 by decide), TD_r⟩
      rw [k74_39]
      simp only [k74_40, k74_41, k74_75, k74_76, k74_78, k74_81, id_t103 hd, id_r0 hd, id_r3 hd, id_t104 hd, id_l104 hd, id_t105 hd, id_l105 hd, rf_s, pushR_s, pushR_n, le4_0, le4_1, le4_2, le4_3, le4_4, isLong_n, isLong_i, isLong_r, isLong_f, if_true, if_false, not_true_eq_false, not_false_eq_true, isI_0, isI_9, isAr_0, isAr_1, isAr_2, isAr_9, okR_i, okR_0, okR_1, putI_0, putI_b0, putI_b1, nI_10, nI_00, Nat.reduceLT, Nat.reduceLeDiff, nI_add, upM_s, upI_s, pk_mul, nf_at, z, m77]
    · have c1 := (chr_1 c).2.2
      have m77 := fun Q => c77y (Q := Q) hd ty hp hl (c := 59) (by omega) (by omega) c1
      rw [c1]
      refine ⟨upM M 103 (upI (M 103) 4 (nI (p + 1))), fun Q => ?_, by rw [upM_s, upI_s]; rfl, fun _ i hi => by rw [upM_n (by decide)]; exact hN i hi, TD_at⟩
      rw [k74_39]
      simp only [k74_40, k74_41, k74_75, k74_76, k74_78, k74_81, id_t103 hd, id_r0 hd, id_r3 hd, id_t104 hd, id_l104 hd, id_t105 hd, id_l105 hd, rf_s, pushR_s, pushR_n, le4_0, le4_1, le4_2, le4_3, le4_4, isLong_n, isLong_i, isLong_r, isLong_f, if_true, if_false, not_true_eq_false, not_false_eq_true, isI_0, isI_9, isAr_0, isAr_1, isAr_2, isAr_9, okR_i, okR_0, okR_1, putI_0, putI_b0, putI_b1, nI_10, nI_00, Nat.reduceLT, Nat.reduceLeDiff, nI_add, upM_s, upI_s, pk_mul, nf_at, z, m77]
  | j + 1, k, p, N, M, hk, hp, ty, hl, hN => by
    have e : nI k < nI m := nI_lt (by omega) (by omega)
    have k3 : k < 3 := by omega
    unfold rdn
    by_cases c1 : k ≠ 0 ∧ chr T len p 44 = 0
    · rw [if_pos c1]
      have z : 0 < nI k := by rw [← nI_0]; exact nI_lt (by omega) (by omega)
      have m77 := fun Q => c77n (Q := Q) hd ty hp hl (c := 44) (by omega) (by omega) c1.2
      refine ⟨M, fun Q => ?_, hp, fun h => absurd h (show ¬ 0 = 1 by decide), TD_r⟩
      rw [k74_39]
      have e0 : fl T len (0, p, N) = 0 := fl_0
      simp only [k74_40, k74_41, k74_44, k74_45, k74_48, k74_49, k74_51, k74_54, k74_57, k74_58, id_t103 hd, id_r0 hd, id_r3 hd, id_t104 hd, id_l104 hd, id_t105 hd, id_l105 hd, rf_s, pushR_s, pushR_n, le4_0, le4_1, le4_2, le4_3, le4_4, isLong_n, isLong_i, isLong_r, isLong_f, if_true, if_false, not_true_eq_false, not_false_eq_true, isI_0, isI_9, isAr_0, isAr_1, isAr_2, isAr_9, okR_i, okR_0, okR_1, putI_0, putI_b0, putI_b1, nI_10, nI_00, Nat.reduceLT, Nat.reduceLeDiff, nI_add, upM_s, upI_s, pk_mul, nf_at, e, z, m77, e0]
    · rw [if_neg c1]
      have key : ∃ A, (∀ Q, wp 74 39 [some (.ref 103), some (.int st), some (.int (nI m)), some (.int (nI k))] [] σ M Q = wp 74 59 [some (.ref 103), some (.int st), some (.int (nI m)), some (.int (nI k))] [] σ A Q) ∧ A 103 4 = nI (if k = 0 then p else p + 1) ∧ (if k = 0 then p else p + 1) ≤ len ∧ A 105 = M 105 ∧ TD M A := by
        by_cases c0 : k = 0
        · refine ⟨M, fun Q => ?_, by rw [if_pos c0]; exact hp, by rw [if_pos c0]; exact hl, rfl, TD_r⟩
          subst c0
          have z : ¬ 0 < nI 0 := by decide
          rw [k74_39]
          simp only [k74_40, k74_41, k74_44, k74_45, k74_48, k74_49, k74_51, k74_54, k74_57, k74_58, id_t103 hd, id_r0 hd, id_r3 hd, id_t104 hd, id_l104 hd, id_t105 hd, id_l105 hd, rf_s, pushR_s, pushR_n, le4_0, le4_1, le4_2, le4_3, le4_4, isLong_n, isLong_i, isLong_r, isLong_f, if_true, if_false, not_true_eq_false, not_false_eq_true, isI_0, isI_9, isAr_0, isAr_1, isAr_2, isAr_9, okR_i, okR_0, okR_1, putI_0, putI_b0, putI_b1, nI_10, nI_00, Nat.reduceLT, Nat.reduceLeDiff, nI_add, upM_s, upI_s, pk_mul, nf_at, e, z]
        · have z : 0 < nI k := by rw [← nI_0]; exact nI_lt (by omega) (by omega)
          have q := chr_1 (T := T) (len := len) (p := p) (c := 44) (fun h => c1 ⟨c0, h⟩)
          have m77 := fun Q => c77y (Q := Q) hd ty hp hl (c := 44) (by omega) (by omega) q.2.2
          refine ⟨upM M 103 (upI (M 103) 4 (nI (p + 1))), fun Q => ?_, by rw [upM_s, upI_s, if_neg c0], by rw [if_neg c0]; omega, upM_n (by decide), TD_at⟩
          rw [k74_39]
          simp only [k74_40, k74_41, k74_44, k74_45, k74_48, k74_49, k74_51, k74_54, k74_57, k74_58, id_t103 hd, id_r0 hd, id_r3 hd, id_t104 hd, id_l104 hd, id_t105 hd, id_l105 hd, rf_s, pushR_s, pushR_n, le4_0, le4_1, le4_2, le4_3, le4_4, isLong_n, isLong_i, isLong_r, isLong_f, if_true, if_false, not_true_eq_false, not_false_eq_true, isI_0, isI_9, isAr_0, isAr_1, isAr_2, isAr_9, okR_i, okR_0, okR_1, putI_0, putI_b0, putI_b1, nI_10, nI_00, Nat.reduceLT, Nat.reduceLeDiff, nI_add, upM_s, upI_s, pk_mul, nf_at, e, z, m77]
      obtain ⟨A, a1, a2, a3, a4, a5⟩ := key
      generalize (if k = 0 then p else p + 1) = q at *
      obtain ⟨P, b1, b2, b3, b4⟩ := c78 hd (Ty_f ty a5) k3 a2 a3
      by_cases c2 : dg T len q = 1
      · rw [if_pos c2]
        rw [c2] at b1
        have le := num_le (T := T) (len := len) 4 q 0 a3
        obtain ⟨M', d1, d2, d3, d4⟩ := c74L hd (st := st) hm3 j (k + 1) (num T len 4 q 0).1 (upN N k (num T len 4 q 0).2) P (by omega) b2 (Ty_f (Ty_f ty a5) b3) le (fun i hi => by
          rw [b4]
          by_cases ci : i = k
          · rw [ci, upI_s, upN_s]
          · rw [upI_n ci, upN_n ci, a4]
            exact hN i (by omega))
        refine ⟨M', fun Q => ?_, d2, d3, TD_t a5 (TD_t b3 d4)⟩
        refine Eq.trans ?_ (d1 Q)
        rw [a1]
        simp only [k74_59, k74_60, k74_61, k74_64, k74_67, k74_68, k74_69, k74_72, id_t103 hd, id_r0 hd, id_r3 hd, id_t104 hd, id_l104 hd, id_t105 hd, id_l105 hd, rf_s, pushR_s, pushR_n, le4_0, le4_1, le4_2, le4_3, le4_4, isLong_n, isLong_i, isLong_r, isLong_f, if_true, if_false, not_true_eq_false, not_false_eq_true, isI_0, isI_9, isAr_0, isAr_1, isAr_2, isAr_9, okR_i, okR_0, okR_1, putI_0, putI_b0, putI_b1, nI_10, nI_00, Nat.reduceLT, Nat.reduceLeDiff, nI_add, upM_s, upI_s, pk_mul, nf_at, b1]
      · rw [if_neg c2]
        rw [dg_0 c2] at b1
        have en : num T len 4 q 0 = (q, 0) := num_n c2 _
        rw [en] at b2
        refine ⟨P, fun Q => ?_, b2, fun h => absurd h (show ¬ 0 = 1 by decide), TD_t a5 b3⟩
        have e0 : fl T len (0, q, N) = 0 := fl_0
        rw [a1]
        simp only [k74_59, k74_60, k74_61, k74_64, k74_67, k74_68, k74_69, k74_72, id_t103 hd, id_r0 hd, id_r3 hd, id_t104 hd, id_l104 hd, id_t105 hd, id_l105 hd, rf_s, pushR_s, pushR_n, le4_0, le4_1, le4_2, le4_3, le4_4, isLong_n, isLong_i, isLong_r, isLong_f, if_true, if_false, not_true_eq_false, not_false_eq_true, isI_0, isI_9, isAr_0, isAr_1, isAr_2, isAr_9, okR_i, okR_0, okR_1, putI_0, putI_b0, putI_b1, nI_10, nI_00, Nat.reduceLT, Nat.reduceLeDiff, nI_add, upM_s, upI_s, pk_mul, nf_at, b1, e0]
theorem c74 (hd : IsD σ) {M : Mem} {p : Nat} (ty : Ty M len T) (hl : p < len) : ∃ M', (∀ Q, wp 74 0 [some (.ref 103), some (.int (nI p)), none, none] [] σ M Q = Q (some (.int (nI (pf T len p N0).1))) σ M') ∧ M' 103 4 = nI (pf T len p N0).2.1 ∧ M' 103 2 = nI (T p) ∧ ((pf T len p N0).1 = 1 → ∀ i, i < many (T p) → M' 105 i = nI ((pf T len p N0).2.2 i)) ∧ (∀ o, o ≠ 103 → o ≠ 105 → M' o = M o) ∧ ∀ i, i ≠ 2 → i ≠ 4 → M' 103 i = M 103 i := by
  have hT := ty.2.2.2 p hl
  have m75 := fun (M : Mem) Q => c75 (σ := σ) (M := M) (c := T p) (Q := Q) (by omega)
  have ty1 : Ty (upM M 103 (upI (M 103) 4 (nI p))) len T := Ty_f ty TD_at
  have m76 := fun Q => c76 (Q := Q) hd ty1 (p := p) (by rw [upM_s, upI_s]) (by omega)
  have es : cs T len p = T p := if_pos hl
  rw [es] at m76
  have hm3 := @many_le (T p)
  have u2 : ∀ (x : Int32), upI (upI (M 103) 4 (nI p)) 2 x 4 = nI p := fun x => rfl
  unfold pf
  by_cases c : many (T p) = 0
  · rw [if_pos c]
    rw [c] at m75
    refine ⟨upM M 103 (upI (upI (M 103) 4 (nI p)) 2 (nI (T p))), fun Q => ?_, rfl, rfl, fun h => absurd h (show ¬ 0 = 1 by decide), fun o h _ => upM_n h, fun i h h2 => by rw [upM_s, upI_n h, upI_n h2]⟩
    simp only [k74_0, k74_1, k74_2, k74_5, k74_6, k74_7, k74_10, k74_13, k74_14, k74_17, k74_20, k74_21, k74_22, k74_25, k74_26, id_t103 hd, id_r0 hd, id_r3 hd, id_t104 hd, id_l104 hd, id_t105 hd, id_l105 hd, rf_s, pushR_s, pushR_n, le4_0, le4_1, le4_2, le4_3, le4_4, isLong_n, isLong_i, isLong_r, isLong_f, if_true, if_false, not_true_eq_false, not_false_eq_true, isI_0, isI_9, isAr_0, isAr_1, isAr_2, isAr_9, okR_i, okR_0, okR_1, putI_0, putI_b0, putI_b1, nI_10, nI_00, Nat.reduceLT, Nat.reduceLeDiff, nI_add, upM_s, upI_s, pk_mul, nf_at, m76, upM_up, m75]
  · rw [if_neg c]
    have z : ¬ nI (many (T p)) = 0 := nI_ne0 (by omega) (by omega)
    have tyA : Ty (upM M 103 (upI (upI (upI (M 103) 4 (nI p)) 2 (nI (T p))) 4 (nI (p + 1)))) len T := ⟨ty.1, ty.2.1, ty.2.2⟩
    obtain ⟨M', d1, d2, d3, d4⟩ := c74L hd (st := nI p) hm3 (many (T p)) 0 (p + 1) N0 (upM M 103 (upI (upI (upI (M 103) 4 (nI p)) 2 (nI (T p))) 4 (nI (p + 1)))) (by omega) (by rw [upM_s, upI_s]) tyA hl (fun i hi => absurd hi (Nat.not_lt_zero _))
    have start : ∀ Q, wp 74 0 [some (.ref 103), some (.int (nI p)), none, none] [] σ M Q = Q (some (.int (nI (fl T len (rdn T len (many (T p)) 0 (p + 1) N0))))) σ M' := fun Q => by
      refine Eq.trans ?_ (d1 Q)
      simp only [k74_0, k74_1, k74_2, k74_5, k74_6, k74_7, k74_10, k74_13, k74_14, k74_17, k74_20, k74_21, k74_22, k74_25, k74_26, k74_27, k74_28i, k74_28r, k74_28f, k74_29, k74_32, k74_33, k74_34, k74_37, k74_38, id_t103 hd, id_r0 hd, id_r3 hd, id_t104 hd, id_l104 hd, id_t105 hd, id_l105 hd, rf_s, pushR_s, pushR_n, le4_0, le4_1, le4_2, le4_3, le4_4, isLong_n, isLong_i, isLong_r, isLong_f, if_true, if_false, not_true_eq_false, not_false_eq_true, isI_0, isI_9, isAr_0, isAr_1, isAr_2, isAr_9, okR_i, okR_0, okR_1, putI_0, putI_b0, putI_b1, nI_10, nI_00, Nat.reduceLT, Nat.reduceLeDiff, nI_add, upM_s, upI_s, pk_mul, nf_at, m76, upM_up, m75, z, u2]
    -- the kind stays
    have k2 : M' 103 2 = nI (T p) := by
      rw [d4.2 2 (by decide)]
      rfl
    have fo : ∀ o, o ≠ 103 → o ≠ 105 → M' o = M o := fun o h h2 => by rw [d4.1 o h h2, upM_n h]
    have fi : ∀ i, i ≠ 2 → i ≠ 4 → M' 103 i = M 103 i := fun i h h2 => by rw [d4.2 i h2, upM_s, upI_n h2, upI_n h, upI_n h2]
    generalize rdn T len (many (T p)) 0 (p + 1) N0 = R at *
    unfold fl at *
    by_cases c2 : R.1 = 1 ∧ chr T len R.2.1 59 = 0
    · rw [if_pos c2] at start d2 d3 ⊢
      exact ⟨M', start, d2, k2, fun h => absurd h (show ¬ 0 = 1 by decide), fo, fi⟩
    · rw [if_neg c2] at start d2 d3 ⊢
      exact ⟨M', start, d2, k2, d3, fo, fi⟩
end TXD
