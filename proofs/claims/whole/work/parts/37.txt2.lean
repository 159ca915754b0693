/-! the reference reads -/
def TF (M M' : Mem) : Prop := (∀ o, o ≠ 106 → o ≠ 116 → M' o = M o) ∧ ∀ i, i ≠ 17 → i ≠ 21 → M' 106 i = M 106 i
def Tx (M : Mem) (len : Nat) (T : Nat → Nat) : Prop := M 106 6 = nI len ∧ (∀ j, j < len → M 111 j = nI (T j)) ∧ len ≤ 60 ∧ ∀ j, j < len → T j ≤ 126
theorem TF_r {M : Mem} : TF M M := ⟨fun _ _ _ => rfl, fun _ _ _ => rfl⟩
theorem TF_t {M N P : Mem} (h : TF M N) (k : TF N P) : TF M P := ⟨fun o a b => (k.1 o a b).trans (h.1 o a b), fun i a b => (k.2 i a b).trans (h.2 i a b)⟩
theorem Tx_f {M N : Mem} {len : Nat} {T : Nat → Nat} (h : Tx M len T) (k : TF M N) : Tx N len T := ⟨by rw [k.2 6 (by decide) (by decide)]; exact h.1, fun j hj => by rw [k.1 111 (by decide) (by decide)]; exact h.2.1 j hj, h.2.2⟩
def sgR (T : Nat → Nat) (len p : Nat) : Int32 := if p < len then nI (T p) else -1
section TXT
variable {σ : Sg} {len : Nat} {T : Nat → Nat}
theorem m151 {M : Mem} (hm : IsM σ) (h : Tx M len T) {p : Nat} (hp : M 106 17 = nI p) (hl : p ≤ len) (Q : Po) : wp 151 0 [some (.ref 106)] [] σ M Q = Q (some (.int (sgR T len p))) σ M := by
  obtain ⟨h1, h2, h3, h4⟩ := h
  by_cases c : p < len
  · have e : nI p < nI len := nI_lt c (by omega)
    have hi : p < 60 := by omega
    have h2' := h2 p c
    simp only [k151_0, k151_1, k151_4, k151_5, k151_8, k151_11, k151_12, k151_15, k151_16, k151_19, k151_20, k151_23, k151_24, im_t106 hm, im_t107 hm, im_t108 hm, im_t109 hm, im_t110 hm, im_t111 hm, im_t112 hm, im_t113 hm, im_t114 hm, im_t115 hm, im_t116 hm, im_l107 hm, im_l108 hm, im_l109 hm, im_l110 hm, im_l111 hm, im_l112 hm, im_l113 hm, im_l114 hm, im_l115 hm, im_l116 hm, im_r0 hm, im_r1 hm, im_r2 hm, im_r3 hm, im_r5 hm, im_r7 hm, im_r14 hm, im_r15 hm, im_r16 hm, im_r22 hm, rf_s, pushR_s, pushR_n, le4_0, le4_1, le4_2, le4_3, le4_4, isLong_n, isLong_i, isLong_r, isLong_f, if_true, if_false, not_true_eq_false, not_false_eq_true, isI_0, isI_9, isAr_0, isAr_1, isAr_2, isAr_9, okR_i, okR_0, okR_1, putI_0, putI_b0, putI_b1, nI_10, nI_00, Nat.reduceLT, Nat.reduceLeDiff, nI_add, upM_s, upI_s, pk_mul, nf_at, hp, h1, e, hi, h2', sgR, c]
  · have e : ¬ nI p < nI len := nI_nlt (by omega) (by omega)
    simp only [k151_0, k151_1, k151_4, k151_5, k151_8, k151_11, k151_12, k151_15, k151_16, k151_19, k151_20, k151_23, k151_24, im_t106 hm, im_t107 hm, im_t108 hm, im_t109 hm, im_t110 hm, im_t111 hm, im_t112 hm, im_t113 hm, im_t114 hm, im_t115 hm, im_t116 hm, im_l107 hm, im_l108 hm, im_l109 hm, im_l110 hm, im_l111 hm, im_l112 hm, im_l113 hm, im_l114 hm, im_l115 hm, im_l116 hm, im_r0 hm, im_r1 hm, im_r2 hm, im_r3 hm, im_r5 hm, im_r7 hm, im_r14 hm, im_r15 hm, im_r16 hm, im_r22 hm, rf_s, pushR_s, pushR_n, le4_0, le4_1, le4_2, le4_3, le4_4, isLong_n, isLong_i, isLong_r, isLong_f, if_true, if_false, not_true_eq_false, not_false_eq_true, isI_0, isI_9, isAr_0, isAr_1, isAr_2, isAr_9, okR_i, okR_0, okR_1, putI_0, putI_b0, putI_b1, nI_10, nI_00, Nat.reduceLT, Nat.reduceLeDiff, nI_add, upM_s, upI_s, pk_mul, nf_at, hp, h1, e, sgR, c]
theorem m152 {M : Mem} (hm : IsM σ) {p f b : Nat} (hf : f ≤ 1) (hb : b ≤ 1) (hp : M 106 17 = nI p) (h1 : M 106 21 = nI f) : ∃ M', (∀ Q, wp 152 0 [some (.ref 106), some (.int (nI b))] [] σ M Q = Q none σ M') ∧ M' 106 17 = nI (p + f * b) ∧ M' 106 21 = nI (f * b) ∧ TF M M' ∧ M' 116 = M 116 := by
  refine ⟨upM M 106 (upI (upI (M 106) 21 (nI (f * b))) 17 (nI (p + f * b))), fun Q => ?_, ?_, ?_, ⟨fun o h _ => upM_n h, fun i h h2 => by rw [upM_s, upI_n h, upI_n h2]⟩, upM_n (by decide)⟩
  · rcases (show f = 0 ∨ f = 1 by omega) with e | e <;> rcases (show b = 0 ∨ b = 1 by omega) with e2 | e2 <;> subst e e2 <;> simp only [k152_0, k152_1, k152_2, k152_5, k152_8, k152_9, k152_12, k152_13, k152_16, k152_17, k152_20, k152_21i, k152_21r, k152_21f, k152_22, k152_25, k152_26, k152_29, k152_32, k152_33, k152_36, k152_37, k152_38, k152_41, im_t106 hm, im_t107 hm, im_t108 hm, im_t109 hm, im_t110 hm, im_t111 hm, im_t112 hm, im_t113 hm, im_t114 hm, im_t115 hm, im_t116 hm, im_l107 hm, im_l108 hm, im_l109 hm, im_l110 hm, im_l111 hm, im_l112 hm, im_l113 hm, im_l114 hm, im_l115 hm, im_l116 hm, im_r0 hm, im_r1 hm, im_r2 hm, im_r3 hm, im_r5 hm, im_r7 hm, im_r14 hm, im_r15 hm, im_r16 hm, im_r22 hm, rf_s, pushR_s, pushR_n, le4_0, le4_1, le4_2, le4_3, le4_4, isLong_n, isLong_i, isLong_r, isLong_f, if_true, if_false, not_true_eq_false, not_false_eq_true, isI_0, isI_9, isAr_0, isAr_1, isAr_2, isAr_9, okR_i, okR_0, okR_1, putI_0, putI_b0, putI_b1, nI_10, nI_00, Nat.reduceLT, Nat.reduceLeDiff, nI_add, upM_s, upI_s, pk_mul, nf_at, upI_n, upM_n, ne_eq, Nat.reduceEqDiff, hp, h1, upM_up, Nat.reduceMul, Nat.add_zero]
  · rw [upM_s, upI_s]
  · rw [upM_s, upI_n (by decide), upI_s]
theorem sg_dg {p : Nat} (hT : ∀ j, j < len → T j ≤ 126) : inI (sgR T len p) (nI 48) (nI 57) = nI (dg T len p) := by
  unfold sgR dg
  by_cases c : p < len
  · have := hT p c
    rw [if_pos c]
    by_cases c2 : 48 ≤ T p ∧ T p ≤ 57
    · rw [if_pos ⟨c, c2⟩]; exact inI_c (by omega) (by omega) c2.1 c2.2 rfl
    · rw [if_neg (fun h => c2 h.2)]; exact inI_o (by omega) (by omega) (by omega) (by omega)
  · rw [if_neg c, if_neg (fun h => c h.1)]; decide
theorem dg_le {p : Nat} : dg T len p ≤ 1 := by
  unfold dg
  split <;> omega
theorem m153L0 {M : Mem} (hm : IsM σ) (h1 : M 106 21 = nI 0) (v : Int32) (Q : Po) : wp 153 25 [some (.ref 106), some (.int v), some (.int (nI 0))] [] σ M Q = wp 153 25 [some (.ref 106), some (.int v), some (.int (nI 3))] [] σ M Q := by
  refine wp_up (n := 3) (fun k => [some (.ref 106), some (.int v), some (.int (nI k))]) (fun _ => M) Q (fun k hk => ?_)
  have e : nI k < nI 3 := nI_lt hk (by omega)
  rw [k153_25]
  simp only [k153_26, k153_27, k153_30, k153_31, k153_34, k153_37, k153_38, k153_41, k153_43, k153_45, k153_48, k153_51, k153_53, k153_54, k153_55, k153_56, k153_59, k153_60, k153_62, k153_63, k153_64, k153_65i, k153_65r, k153_65f, k153_66, k153_69, k153_70, k153_71, k153_74, k153_77, im_t106 hm, im_t107 hm, im_t108 hm, im_t109 hm, im_t110 hm, im_t111 hm, im_t112 hm, im_t113 hm, im_t114 hm, im_t115 hm, im_t116 hm, im_l107 hm, im_l108 hm, im_l109 hm, im_l110 hm, im_l111 hm, im_l112 hm, im_l113 hm, im_l114 hm, im_l115 hm, im_l116 hm, im_r0 hm, im_r1 hm, im_r2 hm, im_r3 hm, im_r5 hm, im_r7 hm, im_r14 hm, im_r15 hm, im_r16 hm, im_r22 hm, rf_s, pushR_s, pushR_n, le4_0, le4_1, le4_2, le4_3, le4_4, isLong_n, isLong_i, isLong_r, isLong_f, if_true, if_false, not_true_eq_false, not_false_eq_true, isI_0, isI_9, isAr_0, isAr_1, isAr_2, isAr_9, okR_i, okR_0, okR_1, putI_0, putI_b0, putI_b1, nI_10, nI_00, Nat.reduceLT, Nat.reduceLeDiff, nI_add, upM_s, upI_s, pk_mul, nf_at, e, h1]
theorem m153L1 (hm : IsM σ) : ∀ (r k p v : Nat) (M : Mem), k + r = 3 → M 106 17 = nI p → M 106 21 = nI 1 → Tx M len T → p ≤ len → ∃ M', (∀ Q, wp 153 25 [some (.ref 106), some (.int (nI v)), some (.int (nI k))] [] σ M Q = wp 153 25 [some (.ref 106), some (.int (nI (num T len r p v).2)), some (.int (nI 3))] [] σ M' Q) ∧ M' 106 17 = nI (num T len r p v).1 ∧ M' 106 21 = nI 1 ∧ TF M M' ∧ M' 116 = M 116
  | 0, k, p, v, M, hk, hp, h1, _, _ => by
    have : k = 3 := by omega
    subst this
    exact ⟨M, fun _ => rfl, hp, h1, TF_r, rfl⟩
  | r + 1, k, p, v, M, hk, hp, h1, tx, hl => by
    have e : nI k < nI 3 := nI_lt (by omega) (by omega)
    have m := fun Q => m151 (Q := Q) hm tx hp hl
    have il := sg_dg (T := T) (len := len) (p := p) tx.2.2.2
    by_cases c : dg T len p = 1
    · have d := dg_1 c
      rw [c] at il
      have es : sgR T len p = nI (T p) := if_pos d.1
      have sb : nI (10 * v + T p) - nI 48 = nI (10 * v + T p - 48) := pk_sub (by omega)
      have en : num T len (r + 1) p v = num T len r (p + 1) (10 * v + T p - 48) := if_pos c
      have hN : TF M (upM M 106 (upI (M 106) 17 (nI (p + 1)))) := ⟨fun o h _ => upM_n h, fun i h _ => by rw [upM_s, upI_n h]⟩
      obtain ⟨M', a1, a2, a3, a4, a5⟩ := m153L1 hm r (k + 1) (p + 1) (10 * v + T p - 48) (upM M 106 (upI (M 106) 17 (nI (p + 1)))) (by omega) (by rw [upM_s, upI_s]) (by rw [upM_s, upI_n (by decide)]; exact h1) (Tx_f tx hN) (by omega)
      rw [← en] at a1 a2
      rw [es] at il
      refine ⟨M', fun Q => ?_, a2, a3, TF_t hN a4, by rw [a5, upM_n (by decide)]⟩
      rw [← a1, k153_25]
      simp only [k153_26, k153_27, k153_30, k153_31, k153_34, k153_37, k153_38, k153_41, k153_43, k153_45, k153_48, k153_51, k153_53, k153_54, k153_55, k153_56, k153_59, k153_60, k153_62, k153_63, k153_64, k153_65i, k153_65r, k153_65f, k153_66, k153_69, k153_70, k153_71, k153_74, k153_77, im_t106 hm, im_t107 hm, im_t108 hm, im_t109 hm, im_t110 hm, im_t111 hm, im_t112 hm, im_t113 hm, im_t114 hm, im_t115 hm, im_t116 hm, im_l107 hm, im_l108 hm, im_l109 hm, im_l110 hm, im_l111 hm, im_l112 hm, im_l113 hm, im_l114 hm, im_l115 hm, im_l116 hm, im_r0 hm, im_r1 hm, im_r2 hm, im_r3 hm, im_r5 hm, im_r7 hm, im_r14 hm, im_r15 hm, im_r16 hm, im_r22 hm, rf_s, pushR_s, pushR_n, le4_0, le4_1, le4_2, le4_3, le4_4, isLong_n, isLong_i, isLong_r, isLong_f, if_true, if_false, not_true_eq_false, not_false_eq_true, isI_0, isI_9, isAr_0, isAr_1, isAr_2, isAr_9, okR_i, okR_0, okR_1, putI_0, putI_b0, putI_b1, nI_10, nI_00, Nat.reduceLT, Nat.reduceLeDiff, nI_add, upM_s, upI_s, pk_mul, nf_at, e, h1, m, m95, il, es, sb, hp]
    · have c0 := dg_0 c
      rw [c0] at il
      have en : num T len (r + 1) p v = (p, v) := num_n c _
      have en2 : num T len r p v = (p, v) := num_n c _
      obtain ⟨M', a1, a2, a3, a4, a5⟩ := m153L1 hm r (k + 1) p v M (by omega) hp h1 tx hl
      rw [en2, ← en] at a1 a2
      refine ⟨M', fun Q => ?_, a2, a3, a4, a5⟩
      rw [← a1, k153_25]
      simp only [k153_26, k153_27, k153_30, k153_31, k153_34, k153_37, k153_38, k153_41, k153_43, k153_45, k153_48, k153_51, k153_53, k153_54, k153_55, k153_56, k153_59, k153_60, k153_62, k153_63, k153_64, k153_65i, k153_65r, k153_65f, k153_66, k153_69, k153_70, k153_71, k153_74, k153_77, im_t106 hm, im_t107 hm, im_t108 hm, im_t109 hm, im_t110 hm, im_t111 hm, im_t112 hm, im_t113 hm, im_t114 hm, im_t115 hm, im_t116 hm, im_l107 hm, im_l108 hm, im_l109 hm, im_l110 hm, im_l111 hm, im_l112 hm, im_l113 hm, im_l114 hm, im_l115 hm, im_l116 hm, im_r0 hm, im_r1 hm, im_r2 hm, im_r3 hm, im_r5 hm, im_r7 hm, im_r14 hm, im_r15 hm, im_r16 hm, im_r22 hm, rf_s, pushR_s, pushR_n, le4_0, le4_1, le4_2, le4_3, le4_4, isLong_n, isLong_i, isLong_r, isLong_f, if_true, if_false, not_true_eq_false, not_false_eq_true, isI_0, isI_9, isAr_0, isAr_1, isAr_2, isAr_9, okR_i, okR_0, okR_1, putI_0, putI_b0, putI_b1, nI_10, nI_00, Nat.reduceLT, Nat.reduceLeDiff, nI_add, upM_s, upI_s, pk_mul, nf_at, e, h1, m, m95, il]
theorem m153n {M : Mem} (hm : IsM σ) (tx : Tx M len T) {p f : Nat} (hf : f ≤ 1) (hp : M 106 17 = nI p) (h1 : M 106 21 = nI f) (hl : p ≤ len) (h0 : f = 0 ∨ dg T len p ≠ 1) : ∃ M' v, (∀ Q, wp 153 0 [some (.ref 106), none, none] [] σ M Q = Q (some (.int v)) σ M') ∧ M' 106 17 = nI p ∧ M' 106 21 = nI 0 ∧ TF M M' ∧ M' 116 = M 116 := by
  have m := fun Q => m151 (Q := Q) hm tx hp hl
  have il := sg_dg (T := T) (len := len) (p := p) tx.2.2.2
  have hb := @dg_le len T p
  obtain ⟨M', a1, a2, a3, a4, a5⟩ := m152 hm (p := p) (f := f) (b := dg T len p) hf hb hp h1
  have e0 : f * dg T len p = 0 := by
    rcases h0 with h | h
    · rw [h, Nat.zero_mul]
    · rw [dg_0 h, Nat.mul_zero]
  rw [e0] at a2 a3
  have lo := fun v Q => m153L0 (Q := Q) hm a3 v
  have e : ¬ nI 3 < nI 3 := by decide
  refine ⟨M', sgR T len p - nI 48, fun Q => ?_, a2, a3, a4, a5⟩
  simp only [k153_0, k153_1, k153_4, k153_6, k153_7, k153_8, k153_9, k153_10, k153_13, k153_15, k153_17, k153_20, k153_23, k153_24, im_t106 hm, im_t107 hm, im_t108 hm, im_t109 hm, im_t110 hm, im_t111 hm, im_t112 hm, im_t113 hm, im_t114 hm, im_t115 hm, im_t116 hm, im_l107 hm, im_l108 hm, im_l109 hm, im_l110 hm, im_l111 hm, im_l112 hm, im_l113 hm, im_l114 hm, im_l115 hm, im_l116 hm, im_r0 hm, im_r1 hm, im_r2 hm, im_r3 hm, im_r5 hm, im_r7 hm, im_r14 hm, im_r15 hm, im_r16 hm, im_r22 hm, rf_s, pushR_s, pushR_n, le4_0, le4_1, le4_2, le4_3, le4_4, isLong_n, isLong_i, isLong_r, isLong_f, if_true, if_false, not_true_eq_false, not_false_eq_true, isI_0, isI_9, isAr_0, isAr_1, isAr_2, isAr_9, okR_i, okR_0, okR_1, putI_0, putI_b0, putI_b1, nI_10, nI_00, Nat.reduceLT, Nat.reduceLeDiff, nI_add, upM_s, upI_s, pk_mul, nf_at, m, m95, il, a1]
  rw [lo, k153_25]
  simp only [k153_26, k153_27, k153_30, k153_31, k153_34, k153_37, k153_38, k153_41, k153_43, k153_45, k153_48, k153_51, k153_53, k153_54, k153_55, k153_56, k153_59, k153_60, k153_62, k153_63, k153_64, k153_65i, k153_65r, k153_65f, k153_66, k153_69, k153_70, k153_71, k153_74, k153_77, k153_80, k153_81, im_t106 hm, im_t107 hm, im_t108 hm, im_t109 hm, im_t110 hm, im_t111 hm, im_t112 hm, im_t113 hm, im_t114 hm, im_t115 hm, im_t116 hm, im_l107 hm, im_l108 hm, im_l109 hm, im_l110 hm, im_l111 hm, im_l112 hm, im_l113 hm, im_l114 hm, im_l115 hm, im_l116 hm, im_r0 hm, im_r1 hm, im_r2 hm, im_r3 hm, im_r5 hm, im_r7 hm, im_r14 hm, im_r15 hm, im_r16 hm, im_r22 hm, rf_s, pushR_s, pushR_n, le4_0, le4_1, le4_2, le4_3, le4_4, isLong_n, isLong_i, isLong_r, isLong_f, if_true, if_false, not_true_eq_false, not_false_eq_true, isI_0, isI_9, isAr_0, isAr_1, isAr_2, isAr_9, okR_i, okR_0, okR_1, putI_0, putI_b0, putI_b1, nI_10, nI_00, Nat.reduceLT, Nat.reduceLeDiff, nI_add, upM_s, upI_s, pk_mul, nf_at, e]
theorem m153y {M : Mem} (hm : IsM σ) (tx : Tx M len T) {p : Nat} (hp : M 106 17 = nI p) (h1 : M 106 21 = nI 1) (hl : p ≤ len) (h0 : dg T len p = 1) : ∃ M', (∀ Q, wp 153 0 [some (.ref 106), none, none] [] σ M Q = Q (some (.int (nI (num T len 4 p 0).2))) σ M') ∧ M' 106 17 = nI (num T len 4 p 0).1 ∧ M' 106 21 = nI 1 ∧ TF M M' ∧ M' 116 = M 116 := by
  have m := fun Q => m151 (Q := Q) hm tx hp hl
  have il := sg_dg (T := T) (len := len) (p := p) tx.2.2.2
  have d := dg_1 h0
  rw [h0] at il
  obtain ⟨N, a1, a2, a3, a4, a5⟩ := m152 hm (p := p) (f := 1) (b := 1) (by omega) (by omega) hp h1
  have es : sgR T len p = nI (T p) := if_pos d.1
  rw [es] at il
  have sb : nI (T p) - nI 48 = nI (T p - 48) := pk_sub (by omega)
  have en : num T len 4 p 0 = num T len 3 (p + 1) (T p - 48) := by
    show (if dg T len p = 1 then num T len 3 (p + 1) (10 * 0 + T p - 48) else (p, 0)) = _
    rw [if_pos h0, Nat.mul_zero, Nat.zero_add]
  obtain ⟨M', b1, b2, b3, b4, b5⟩ := m153L1 hm 3 0 (p + 1) (T p - 48) N rfl a2 a3 (Tx_f tx a4) (by omega)
  rw [← en] at b1 b2
  have e : ¬ nI 3 < nI 3 := by decide
  refine ⟨M', fun Q => ?_, b2, b3, TF_t a4 b4, by rw [b5, a5]⟩
  simp only [k153_0, k153_1, k153_4, k153_6, k153_7, k153_8, k153_9, k153_10, k153_13, k153_15, k153_17, k153_20, k153_23, k153_24, im_t106 hm, im_t107 hm, im_t108 hm, im_t109 hm, im_t110 hm, im_t111 hm, im_t112 hm, im_t113 hm, im_t114 hm, im_t115 hm, im_t116 hm, im_l107 hm, im_l108 hm, im_l109 hm, im_l110 hm, im_l111 hm, im_l112 hm, im_l113 hm, im_l114 hm, im_l115 hm, im_l116 hm, im_r0 hm, im_r1 hm, im_r2 hm, im_r3 hm, im_r5 hm, im_r7 hm, im_r14 hm, im_r15 hm, im_r16 hm, im_r22 hm, rf_s, pushR_s, pushR_n, le4_0, le4_1, le4_2, le4_3, le4_4, isLong_n, isLong_i, isLong_r, isLong_f, if_true, if_false, not_true_eq_false, not_false_eq_true, isI_0, isI_9, isAr_0, isAr_1, isAr_2, isAr_9, okR_i, okR_0, okR_1, putI_0, putI_b0, putI_b1, nI_10, nI_00, Nat.reduceLT, Nat.reduceLeDiff, nI_add, upM_s, upI_s, pk_mul, nf_at, m, m95, il, a1, es, sb]
  rw [b1, k153_25]
  simp only [k153_26, k153_27, k153_30, k153_31, k153_34, k153_37, k153_38, k153_41, k153_43, k153_45, k153_48, k153_51, k153_53, k153_54, k153_55, k153_56, k153_59, k153_60, k153_62, k153_63, k153_64, k153_65i, k153_65r, k153_65f, k153_66, k153_69, k153_70, k153_71, k153_74, k153_77, k153_80, k153_81, im_t106 hm, im_t107 hm, im_t108 hm, im_t109 hm, im_t110 hm, im_t111 hm, im_t112 hm, im_t113 hm, im_t114 hm, im_t115 hm, im_t116 hm, im_l107 hm, im_l108 hm, im_l109 hm, im_l110 hm, im_l111 hm, im_l112 hm, im_l113 hm, im_l114 hm, im_l115 hm, im_l116 hm, im_r0 hm, im_r1 hm, im_r2 hm, im_r3 hm, im_r5 hm, im_r7 hm, im_r14 hm, im_r15 hm, im_r16 hm, im_r22 hm, rf_s, pushR_s, pushR_n, le4_0, le4_1, le4_2, le4_3, le4_4, isLong_n, isLong_i, isLong_r, isLong_f, if_true, if_false, not_true_eq_false, not_false_eq_true, isI_0, isI_9, isAr_0, isAr_1, isAr_2, isAr_9, okR_i, okR_0, okR_1, putI_0, putI_b0, putI_b1, nI_10, nI_00, Nat.reduceLT, Nat.reduceLeDiff, nI_add, upM_s, upI_s, pk_mul, nf_at, e]
theorem m154 {M : Mem} {c : Nat} (hc : c < 200) (Q : Po) : wp 154 0 [some (.int (nI c))] [] σ M Q = Q (some (.int (nI (many c)))) σ M := by
  by_cases o : c < 99 ∨ 115 < c
  · have n : ∀ w, 99 ≤ w → w ≤ 115 → ¬ nI c = nI w := fun w h1 h2 => ne_n (by omega) (by omega) (by omega)
    have e : many c = 0 := by
      unfold many
      rw [if_neg (by omega), if_neg (by omega), if_neg (by omega)]
    simp only [k154_0, k154_1, k154_84, k154_85, k154_86, k154_87, k154_88, k154_89, k154_90, k154_91, rf_s, pushR_s, pushR_n, le4_0, le4_1, le4_2, le4_3, le4_4, isLong_n, isLong_i, isLong_r, isLong_f, if_true, if_false, not_true_eq_false, not_false_eq_true, isI_0, isI_9, isAr_0, isAr_1, isAr_2, isAr_9, okR_i, okR_0, okR_1, putI_0, putI_b0, putI_b1, nI_10, nI_00, Nat.reduceLT, Nat.reduceLeDiff, nI_add, upM_s, upI_s, pk_mul, nf_at, e, n 99 (by omega) (by omega), n 100 (by omega) (by omega), n 101 (by omega) (by omega), n 102 (by omega) (by omega), n 103 (by omega) (by omega), n 104 (by omega) (by omega), n 105 (by omega) (by omega), n 106 (by omega) (by omega), n 107 (by omega) (by omega), n 108 (by omega) (by omega), n 109 (by omega) (by omega), n 110 (by omega) (by omega), n 111 (by omega) (by omega), n 112 (by omega) (by omega), n 113 (by omega) (by omega), n 114 (by omega) (by omega), n 115 (by omega) (by omega)]
  · rcases (show c = 99 ∨ c = 100 ∨ c = 101 ∨ c = 102 ∨ c = 103 ∨ c = 104 ∨ c = 105 ∨ c = 106 ∨ c = 107 ∨ c = 108 ∨ c = 109 ∨ c = 110 ∨ c = 111 ∨ c = 112 ∨ c = 113 ∨ c = 114 ∨ c = 115 by omega) with e | e | e | e | e | e | e | e | e | e | e | e | e | e | e | e | e <;> subst e <;> simp only [k154_0, k154_1, k154_84, k154_85, k154_86, k154_87, k154_88, k154_89, k154_90, k154_91, rf_s, pushR_s, pushR_n, le4_0, le4_1, le4_2, le4_3, le4_4, isLong_n, isLong_i, isLong_r, isLong_f, if_true, if_false, not_true_eq_false, not_false_eq_true, isI_0, isI_9, isAr_0, isAr_1, isAr_2, isAr_9, okR_i, okR_0, okR_1, putI_0, putI_b0, putI_b1, nI_10, nI_00, Nat.reduceLT, Nat.reduceLeDiff, nI_add, upM_s, upI_s, pk_mul, nf_at, nI_lit, Nat.reduceEqDiff, many, or_true, true_or, or_false, false_or]
theorem sg_chr {p c : Nat} (hT : ∀ j, j < len → T j ≤ 126) (hc : c < 200) : (chr T len p c = 1 ∧ sgR T len p = nI c) ∨ (chr T len p c = 0 ∧ ¬ sgR T len p = nI c) := by
  unfold chr sgR
  by_cases h : p < len
  · have := hT p h
    rw [if_pos h]
    by_cases h2 : T p = c
    · left; rw [if_pos ⟨h, h2⟩, h2]; exact ⟨rfl, rfl⟩
    · right; rw [if_neg (fun q => h2 q.2)]; exact ⟨rfl, ne_n (by omega) (by omega) h2⟩
  · right
    rw [if_neg h, if_neg (fun q => h q.1)]
    exact ⟨rfl, fun e => ne_m1 (a := c) (by omega) e.symm⟩
theorem m155F (hm : IsM σ) {c : Int32} {m : Nat} (hm3 : m ≤ 3) : ∀ (j k p : Nat) (M : Mem), k + j = m → M 106 17 = nI p → M 106 21 = nI 0 → Tx M len T → p ≤ len → ∃ M', (∀ Q, wp 155 20 [some (.ref 106), some (.int c), some (.int (nI m)), some (.int (nI k))] [] σ M Q = wp 155 20 [some (.ref 106), some (.int c), some (.int (nI m)), some (.int (nI m))] [] σ M' Q) ∧ M' 106 17 = nI p ∧ M' 106 21 = nI 0 ∧ TF M M'
  | 0, k, p, M, hk, hp, h1, _, _ => by
    have : k = m := by omega
    subst this
    exact ⟨M, fun _ => rfl, hp, h1, TF_r⟩
  | j + 1, k, p, M, hk, hp, h1, tx, hl => by
    have e : nI k < nI m := nI_lt (by omega) (by omega)
    have k3 : k < 3 := by omega
    have m1 := fun Q => m151 (Q := Q) hm tx hp hl
    -- ahead of the number
    have key : ∃ N, (∀ Q, wp 155 20 [some (.ref 106), some (.int c), some (.int (nI m)), some (.int (nI k))] [] σ M Q = wp 155 47 [some (.ref 106), some (.int c), some (.int (nI m)), some (.int (nI k))] [] σ N Q) ∧ N 106 17 = nI p ∧ N 106 21 = nI 0 ∧ TF M N := by
      by_cases c0 : k = 0
      · refine ⟨M, fun Q => ?_, hp, h1, TF_r⟩
        subst c0
        have z : ¬ 0 < nI 0 := by decide
        rw [k155_20]
        simp only [k155_21, k155_22, k155_25, k155_26, k155_29, k155_30, k155_31, k155_34, k155_36, k155_39, k155_40, k155_43, k155_44, im_t106 hm, im_t107 hm, im_t108 hm, im_t109 hm, im_t110 hm, im_t111 hm, im_t112 hm, im_t113 hm, im_t114 hm, im_t115 hm, im_t116 hm, im_l107 hm, im_l108 hm, im_l109 hm, im_l110 hm, im_l111 hm, im_l112 hm, im_l113 hm, im_l114 hm, im_l115 hm, im_l116 hm, im_r0 hm, im_r1 hm, im_r2 hm, im_r3 hm, im_r5 hm, im_r7 hm, im_r14 hm, im_r15 hm, im_r16 hm, im_r22 hm, rf_s, pushR_s, pushR_n, le4_0, le4_1, le4_2, le4_3, le4_4, isLong_n, isLong_i, isLong_r, isLong_f, if_true, if_false, not_true_eq_false, not_false_eq_true, isI_0, isI_9, isAr_0, isAr_1, isAr_2, isAr_9, okR_i, okR_0, okR_1, putI_0, putI_b0, putI_b1, nI_10, nI_00, Nat.reduceLT, Nat.reduceLeDiff, nI_add, upM_s, upI_s, pk_mul, nf_at, e, z]
      · have z : 0 < nI k := by rw [← nI_0]; exact nI_lt (by omega) (by omega)
        rcases sg_chr (T := T) (len := len) (p := p) (c := 44) tx.2.2.2 (by omega) with ⟨_, q⟩ | ⟨_, q⟩
        · obtain ⟨N, a1, a2, a3, a4, _⟩ := m152 hm (p := p) (f := 0) (b := 1) (by omega) (by omega) hp h1
          refine ⟨N, fun Q => ?_, a2, a3, a4⟩
          rw [k155_20]
          simp only [k155_21, k155_22, k155_25, k155_26, k155_29, k155_30, k155_31, k155_34, k155_36, k155_39, k155_40, k155_43, k155_44, im_t106 hm, im_t107 hm, im_t108 hm, im_t109 hm, im_t110 hm, im_t111 hm, im_t112 hm, im_t113 hm, im_t114 hm, im_t115 hm, im_t116 hm, im_l107 hm, im_l108 hm, im_l109 hm, im_l110 hm, im_l111 hm, im_l112 hm, im_l113 hm, im_l114 hm, im_l115 hm, im_l116 hm, im_r0 hm, im_r1 hm, im_r2 hm, im_r3 hm, im_r5 hm, im_r7 hm, im_r14 hm, im_r15 hm, im_r16 hm, im_r22 hm, rf_s, pushR_s, pushR_n, le4_0, le4_1, le4_2, le4_3, le4_4, isLong_n, isLong_i, isLong_r, isLong_f, if_true, if_false, not_true_eq_false, not_false_eq_true, isI_0, isI_9, isAr_0, isAr_1, isAr_2, isAr_9, okR_i, okR_0, okR_1, putI_0, putI_b0, putI_b1, nI_10, nI_00, Nat.reduceLT, Nat.reduceLeDiff, nI_add, upM_s, upI_s, pk_mul, nf_at, e, z, m1, q, a1]
        · obtain ⟨N, a1, a2, a3, a4, _⟩ := m152 hm (p := p) (f := 0) (b := 0) (by omega) (by omega) hp h1
          refine ⟨N, fun Q => ?_, a2, a3, a4⟩
          rw [k155_20]
          simp only [k155_21, k155_22, k155_25, k155_26, k155_29, k155_30, k155_31, k155_34, k155_36, k155_39, k155_40, k155_43, k155_44, im_t106 hm, im_t107 hm, im_t108 hm, im_t109 hm, im_t110 hm, im_t111 hm, im_t112 hm, im_t113 hm, im_t114 hm, im_t115 hm, im_t116 hm, im_l107 hm, im_l108 hm, im_l109 hm, im_l110 hm, im_l111 hm, im_l112 hm, im_l113 hm, im_l114 hm, im_l115 hm, im_l116 hm, im_r0 hm, im_r1 hm, im_r2 hm, im_r3 hm, im_r5 hm, im_r7 hm, im_r14 hm, im_r15 hm, im_r16 hm, im_r22 hm, rf_s, pushR_s, pushR_n, le4_0, le4_1, le4_2, le4_3, le4_4, isLong_n, isLong_i, isLong_r, isLong_f, if_true, if_false, not_true_eq_false, not_false_eq_true, isI_0, isI_9, isAr_0, isAr_1, isAr_2, isAr_9, okR_i, okR_0, okR_1, putI_0, putI_b0, putI_b1, nI_10, nI_00, Nat.reduceLT, Nat.reduceLeDiff, nI_add, upM_s, upI_s, pk_mul, nf_at, e, z, m1, q, a1]
    obtain ⟨N, a1, a2, a3, a4⟩ := key
    obtain ⟨P, v, b1, b2, b3, b4, _⟩ := m153n hm (Tx_f tx a4) (p := p) (f := 0) (by omega) a2 a3 hl (Or.inl rfl)
    have hN : TF P (upM P 116 (upI (P 116) k v)) := ⟨fun o _ h => upM_n h, fun i _ _ => by rw [upM_n (by decide)]⟩
    obtain ⟨M', d1, d2, d3, d4⟩ := m155F hm (c := c) hm3 j (k + 1) p (upM P 116 (upI (P 116) k v)) (by omega) (by rw [upM_n (by decide)]; exact b2) (by rw [upM_n (by decide)]; exact b3) (Tx_f (Tx_f (Tx_f tx a4) b4) hN) hl
    refine ⟨M', fun Q => ?_, d2, d3, TF_t a4 (TF_t b4 (TF_t hN d4))⟩
    rw [a1, ← d1]
    simp only [k155_47, k155_48, k155_51, k155_52, k155_53, k155_56, k155_57, k155_60, im_t106 hm, im_t107 hm, im_t108 hm, im_t109 hm, im_t110 hm, im_t111 hm, im_t112 hm, im_t113 hm, im_t114 hm, im_t115 hm, im_t116 hm, im_l107 hm, im_l108 hm, im_l109 hm, im_l110 hm, im_l111 hm, im_l112 hm, im_l113 hm, im_l114 hm, im_l115 hm, im_l116 hm, im_r0 hm, im_r1 hm, im_r2 hm, im_r3 hm, im_r5 hm, im_r7 hm, im_r14 hm, im_r15 hm, im_r16 hm, im_r22 hm, rf_s, pushR_s, pushR_n, le4_0, le4_1, le4_2, le4_3, le4_4, isLong_n, isLong_i, isLong_r, isLong_f, if_true, if_false, not_true_eq_false, not_false_eq_true, isI_0, isI_9, isAr_0, isAr_1, isAr_2, isAr_9, okR_i, okR_0, okR_1, putI_0, putI_b0, putI_b1, nI_10, nI_00, Nat.reduceLT, Nat.reduceLeDiff, nI_add, upM_s, upI_s, pk_mul, nf_at, b1, k3]
theorem m155L (hm : IsM σ) {c : Int32} {m : Nat} (hm3 : m ≤ 3) : ∀ (j k p : Nat) (N : Nat → Nat) (M : Mem), k + j = m → M 106 17 = nI p → M 106 21 = nI 1 → Tx M len T → p ≤ len → (∀ i, i < k → M 116 i = nI (N i)) → ∃ M', (∀ Q, wp 155 20 [some (.ref 106), some (.int c), some (.int (nI m)), some (.int (nI k))] [] σ M Q = wp 155 20 [some (.ref 106), some (.int c), some (.int (nI m)), some (.int (nI m))] [] σ M' Q) ∧ M' 106 17 = nI (rdn T len j k p N).2.1 ∧ M' 106 21 = nI (rdn T len j k p N).1 ∧ ((rdn T len j k p N).1 = 1 → ∀ i, i < m → M' 116 i = nI ((rdn T len j k p N).2.2 i)) ∧ TF M M'
  | 0, k, p, N, M, hk, hp, h1, _, _, hN => by
    have : k = m := by omega
    subst this
    exact ⟨M, fun _ => rfl, hp, h1, fun _ => hN, TF_r⟩
  | j + 1, k, p, N, M, hk, hp, h1, tx, hl, hN => by
    have e : nI k < nI m := nI_lt (by omega) (by omega)
    have k3 : k < 3 := by omega
    have m1 := fun Q => m151 (Q := Q) hm tx hp hl
    unfold rdn
    by_cases c1 : k ≠ 0 ∧ chr T len p 44 = 0
    · -- no comma
      rw [if_pos c1]
      have z : 0 < nI k := by rw [← nI_0]; exact nI_lt (by omega) (by omega)
      rcases sg_chr (T := T) (len := len) (p := p) (c := 44) tx.2.2.2 (by omega) with ⟨q0, q⟩ | ⟨_, q⟩
      · omega
      · obtain ⟨A, a1, a2, a3, a4, _⟩ := m152 hm (p := p) (f := 1) (b := 0) (by omega) (by omega) hp h1
        obtain ⟨P, v, b1, b2, b3, b4, _⟩ := m153n hm (Tx_f tx a4) (p := p) (f := 0) (by omega) a2 a3 hl (Or.inl rfl)
        have hU : TF P (upM P 116 (upI (P 116) k v)) := ⟨fun o _ h => upM_n h, fun i _ _ => by rw [upM_n (by decide)]⟩
        obtain ⟨M', d1, d2, d3, d4⟩ := m155F hm (c := c) hm3 j (k + 1) p (upM P 116 (upI (P 116) k v)) (by omega) (by rw [upM_n (by decide)]; exact b2) (by rw [upM_n (by decide)]; exact b3) (Tx_f (Tx_f (Tx_f tx a4) b4) hU) hl
        refine ⟨M', fun Q => ?_, d2, d3, fun h => absurd h (show ¬ 0 = 1 by decide), TF_t a4 (TF_t b4 (TF_t hU d4))⟩
        rw [← d1, k155_20]
        simp only [k155_21, k155_22, k155_25, k155_26, k155_29, k155_30, k155_31, k155_34, k155_36, k155_39, k155_40, k155_43, k155_44, k155_47, k155_48, k155_51, k155_52, k155_53, k155_56, k155_57, k155_60, im_t106 hm, im_t107 hm, im_t108 hm, im_t109 hm, im_t110 hm, im_t111 hm, im_t112 hm, im_t113 hm, im_t114 hm, im_t115 hm, im_t116 hm, im_l107 hm, im_l108 hm, im_l109 hm, im_l110 hm, im_l111 hm, im_l112 hm, im_l113 hm, im_l114 hm, im_l115 hm, im_l116 hm, im_r0 hm, im_r1 hm, im_r2 hm, im_r3 hm, im_r5 hm, im_r7 hm, im_r14 hm, im_r15 hm, im_r16 hm, im_r22 hm, rf_s, pushR_s, pushR_n, le4_0, le4_1, le4_2, le4_3, le4_4, isLong_n, isLong_i, isLong_r, isLong_f, if_true, if_false, not_true_eq_false, not_false_eq_true, isI_0, isI_9, isAr_0, isAr_1, isAr_2, isAr_9, okR_i, okR_0, okR_1, putI_0, putI_b0, putI_b1, nI_10, nI_00, Nat.reduceLT, Nat.reduceLeDiff, nI_add, upM_s, upI_s, pk_mul, nf_at, e, z, m1, q, a1, b1, k3]
    · rw [if_neg c1]
      -- behind the comma
      have key : ∃ A, (∀ Q, wp 155 20 [some (.ref 106), some (.int c), some (.int (nI m)), some (.int (nI k))] [] σ M Q = wp 155 47 [some (.ref 106), some (.int c), some (.int (nI m)), some (.int (nI k))] [] σ A Q) ∧ A 106 17 = nI (if k = 0 then p else p + 1) ∧ A 106 21 = nI 1 ∧ (if k = 0 then p else p + 1) ≤ len ∧ A 116 = M 116 ∧ TF M A := by
        by_cases c0 : k = 0
        · refine ⟨M, fun Q => ?_, by rw [if_pos c0]; exact hp, h1, by rw [if_pos c0]; exact hl, rfl, TF_r⟩
          subst c0
          have z : ¬ 0 < nI 0 := by decide
          rw [k155_20]
          simp only [k155_21, k155_22, k155_25, k155_26, k155_29, k155_30, k155_31, k155_34, k155_36, k155_39, k155_40, k155_43, k155_44, im_t106 hm, im_t107 hm, im_t108 hm, im_t109 hm, im_t110 hm, im_t111 hm, im_t112 hm, im_t113 hm, im_t114 hm, im_t115 hm, im_t116 hm, im_l107 hm, im_l108 hm, im_l109 hm, im_l110 hm, im_l111 hm, im_l112 hm, im_l113 hm, im_l114 hm, im_l115 hm, im_l116 hm, im_r0 hm, im_r1 hm, im_r2 hm, im_r3 hm, im_r5 hm, im_r7 hm, im_r14 hm, im_r15 hm, im_r16 hm, im_r22 hm, rf_s, pushR_s, pushR_n, le4_0, le4_1, le4_2, le4_3, le4_4, isLong_n, isLong_i, isLong_r, isLong_f, if_true, if_false, not_true_eq_false, not_false_eq_true, isI_0, isI_9, isAr_0, isAr_1, isAr_2, isAr_9, okR_i, okR_0, okR_1, putI_0, putI_b0, putI_b1, nI_10, nI_00, Nat.reduceLT, Nat.reduceLeDiff, nI_add, upM_s, upI_s, pk_mul, nf_at, e, z]
        · have z : 0 < nI k := by rw [← nI_0]; exact nI_lt (by omega) (by omega)
          rcases sg_chr (T := T) (len := len) (p := p) (c := 44) tx.2.2.2 (by omega) with ⟨q0, q⟩ | ⟨q0, q⟩
          · have lt := (chr_1 (T := T) (len := len) (p := p) (c := 44) (by omega)).1
            refine ⟨upM M 106 (upI (upI (M 106) 21 (nI (1 * 1))) 17 (nI (p + 1 * 1))), fun Q => ?_, ?_, ?_, ?_, ?_, ?_⟩
            · have m2 : ∀ Q, wp 152 0 [some (.ref 106), some (.int (nI 1))] [] σ M Q = Q none σ (upM M 106 (upI (upI (M 106) 21 (nI (1 * 1))) 17 (nI (p + 1 * 1)))) := fun Q => by
                simp only [k152_0, k152_1, k152_2, k152_5, k152_8, k152_9, k152_12, k152_13, k152_16, k152_17, k152_20, k152_21i, k152_21r, k152_21f, k152_22, k152_25, k152_26, k152_29, k152_32, k152_33, k152_36, k152_37, k152_38, k152_41, im_t106 hm, im_t107 hm, im_t108 hm, im_t109 hm, im_t110 hm, im_t111 hm, im_t112 hm, im_t113 hm, im_t114 hm, im_t115 hm, im_t116 hm, im_l107 hm, im_l108 hm, im_l109 hm, im_l110 hm, im_l111 hm, im_l112 hm, im_l113 hm, im_l114 hm, im_l115 hm, im_l116 hm, im_r0 hm, im_r1 hm, im_r2 hm, im_r3 hm, im_r5 hm, im_r7 hm, im_r14 hm, im_r15 hm, im_r16 hm, im_r22 hm, rf_s, pushR_s, pushR_n, le4_0, le4_1, le4_2, le4_3, le4_4, isLong_n, isLong_i, isLong_r, isLong_f, if_true, if_false, not_true_eq_false, not_false_eq_true, isI_0, isI_9, isAr_0, isAr_1, isAr_2, isAr_9, okR_i, okR_0, okR_1, putI_0, putI_b0, putI_b1, nI_10, nI_00, Nat.reduceLT, Nat.reduceLeDiff, nI_add, upM_s, upI_s, pk_mul, nf_at, upI_n, upM_n, ne_eq, Nat.reduceEqDiff, hp, h1, upM_up, Nat.reduceMul, Nat.add_zero]
              rw [k155_20]
              simp only [k155_21, k155_22, k155_25, k155_26, k155_29, k155_30, k155_31, k155_34, k155_36, k155_39, k155_40, k155_43, k155_44, im_t106 hm, im_t107 hm, im_t108 hm, im_t109 hm, im_t110 hm, im_t111 hm, im_t112 hm, im_t113 hm, im_t114 hm, im_t115 hm, im_t116 hm, im_l107 hm, im_l108 hm, im_l109 hm, im_l110 hm, im_l111 hm, im_l112 hm, im_l113 hm, im_l114 hm, im_l115 hm, im_l116 hm, im_r0 hm, im_r1 hm, im_r2 hm, im_r3 hm, im_r5 hm, im_r7 hm, im_r14 hm, im_r15 hm, im_r16 hm, im_r22 hm, rf_s, pushR_s, pushR_n, le4_0, le4_1, le4_2, le4_3, le4_4, isLong_n, isLong_i, isLong_r, isLong_f, if_true, if_false, not_true_eq_false, not_false_eq_true, isI_0, isI_9, isAr_0, isAr_1, isAr_2, isAr_9, okR_i, okR_0, okR_1, putI_0, putI_b0, putI_b1, nI_10, nI_00, Nat.reduceLT, Nat.reduceLeDiff, nI_add, upM_s, upI_s, pk_mul, nf_at, e, z, m1, q, m2]
            · rw [upM_s, upI_s, if_neg c0]
            · rw [upM_s, upI_n (by decide), upI_s]
            · rw [if_neg c0]; omega
            · exact upM_n (by decide)
            · exact ⟨fun o h _ => upM_n h, fun i h h2 => by rw [upM_s, upI_n h, upI_n h2]⟩
          · exact absurd ⟨c0, q0⟩ c1
      obtain ⟨A, a1, a2, a3, a4, a5, a6⟩ := key
      generalize (if k = 0 then p else p + 1) = q at *
      by_cases c2 : dg T len q = 1
      · rw [if_pos c2]
        have b := num_le (T := T) (len := len) 4 q 0 a4
        obtain ⟨P, b1, b2, b3, b4, b5⟩ := m153y hm (Tx_f tx a6) a2 a3 a4 c2
        have hU : TF P (upM P 116 (upI (P 116) k (nI (num T len 4 q 0).2))) := ⟨fun o _ h => upM_n h, fun i _ _ => by rw [upM_n (by decide)]⟩
        obtain ⟨M', d1, d2, d3, d4, d5⟩ := m155L hm (c := c) hm3 j (k + 1) (num T len 4 q 0).1 (upN N k (num T len 4 q 0).2) (upM P 116 (upI (P 116) k (nI (num T len 4 q 0).2))) (by omega) (by rw [upM_n (by decide)]; exact b2) (by rw [upM_n (by decide)]; exact b3) (Tx_f (Tx_f (Tx_f tx a6) b4) hU) b (fun i hi => by
          rw [upM_s]
          by_cases ci : i = k
          · rw [ci, upI_s, upN_s]
          · rw [upI_n ci, upN_n ci, b5, a5]
            exact hN i (by omega))
        refine ⟨M', fun Q => ?_, d2, d3, d4, TF_t a6 (TF_t b4 (TF_t hU d5))⟩
        rw [a1, ← d1]
        simp only [k155_47, k155_48, k155_51, k155_52, k155_53, k155_56, k155_57, k155_60, im_t106 hm, im_t107 hm, im_t108 hm, im_t109 hm, im_t110 hm, im_t111 hm, im_t112 hm, im_t113 hm, im_t114 hm, im_t115 hm, im_t116 hm, im_l107 hm, im_l108 hm, im_l109 hm, im_l110 hm, im_l111 hm, im_l112 hm, im_l113 hm, im_l114 hm, im_l115 hm, im_l116 hm, im_r0 hm, im_r1 hm, im_r2 hm, im_r3 hm, im_r5 hm, im_r7 hm, im_r14 hm, im_r15 hm, im_r16 hm, im_r22 hm, rf_s, pushR_s, pushR_n, le4_0, le4_1, le4_2, le4_3, le4_4, isLong_n, isLong_i, isLong_r, isLong_f, if_true, if_false, not_true_eq_false, not_false_eq_true, isI_0, isI_9, isAr_0, isAr_1, isAr_2, isAr_9, okR_i, okR_0, okR_1, putI_0, putI_b0, putI_b1, nI_10, nI_00, Nat.reduceLT, Nat.reduceLeDiff, nI_add, upM_s, upI_s, pk_mul, nf_at, b1, k3]
      · rw [if_neg c2]
        obtain ⟨P, v, b1, b2, b3, b4, _⟩ := m153n hm (Tx_f tx a6) (p := q) (f := 1) (by omega) a2 a3 a4 (Or.inr c2)
        have hU : TF P (upM P 116 (upI (P 116) k v)) := ⟨fun o _ h => upM_n h, fun i _ _ => by rw [upM_n (by decide)]⟩
        obtain ⟨M', d1, d2, d3, d4⟩ := m155F hm (c := c) hm3 j (k + 1) q (upM P 116 (upI (P 116) k v)) (by omega) (by rw [upM_n (by decide)]; exact b2) (by rw [upM_n (by decide)]; exact b3) (Tx_f (Tx_f (Tx_f tx a6) b4) hU) a4
        refine ⟨M', fun Q => ?_, d2, d3, fun h => absurd h (show ¬ 0 = 1 by decide), TF_t a6 (TF_t b4 (TF_t hU d4))⟩
        rw [a1, ← d1]
        simp only [k155_47, k155_48, k155_51, k155_52, k155_53, k155_56, k155_57, k155_60, im_t106 hm, im_t107 hm, im_t108 hm, im_t109 hm, im_t110 hm, im_t111 hm, im_t112 hm, im_t113 hm, im_t114 hm, im_t115 hm, im_t116 hm, im_l107 hm, im_l108 hm, im_l109 hm, im_l110 hm, im_l111 hm, im_l112 hm, im_l113 hm, im_l114 hm, im_l115 hm, im_l116 hm, im_r0 hm, im_r1 hm, im_r2 hm, im_r3 hm, im_r5 hm, im_r7 hm, im_r14 hm, im_r15 hm, im_r16 hm, im_r22 hm, rf_s, pushR_s, pushR_n, le4_0, le4_1, le4_2, le4_3, le4_4, isLong_n, isLong_i, isLong_r, isLong_f, if_true, if_false, not_true_eq_false, not_false_eq_true, isI_0, isI_9, isAr_0, isAr_1, isAr_2, isAr_9, okR_i, okR_0, okR_1, putI_0, putI_b0, putI_b1, nI_10, nI_00, Nat.reduceLT, Nat.reduceLeDiff, nI_add, upM_s, upI_s, pk_mul, nf_at, b1, k3]
end TXT
