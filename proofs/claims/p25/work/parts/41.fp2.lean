theorem nn_fU {E t : Nat} (hE : E < 255) (ht : t < 8388608) : nn32 (fU E t) = true := by
  unfold nn32
  refine decide_eq_true ?_
  rw [UInt32.le_iff_toNat_le, UInt32.toNat_and, fU_n hE ht]
  have h1 : (0x7fffffff : UInt32).toNat = 2 ^ 31 - 1 := by decide
  have h2 : (0x7f800000 : UInt32).toNat = 2139095040 := by decide
  rw [h1, h2, Nat.and_two_pow_sub_one_eq_mod]
  omega
theorem fU_1 : (1065353216 : UInt32) = fU 127 0 := by decide
theorem fU_2 : (1073741824 : UInt32) = fU 128 0 := by decide
theorem fU_23 : (1258291200 : UInt32) = fU 150 0 := by decide
theorem fcmp_lt {E t : Nat} (h1 : 1 ≤ E) (h2 : E < 127) (ht : t < 8388608) : FP.fcmp (fU E t) (fU 127 0) = some .lt := by
  show FP.Core.cmp FP.Core.b32 (fU E t).toNat (fU 127 0).toNat = _
  unfold FP.Core.cmp
  rw [fp_decU h1 (by omega) ht, fp_decU (by omega) (by omega) (by omega)]
  unfold FP.Core.order FP.Core.inUnits FP.Core.signed
  dsimp only
  have e1 : min ((E : Int) - 150) (((127 : Nat) : Int) - 150) = (E : Int) - 150 := by omega
  rw [e1]
  have e2 : ((E : Int) - 150 - ((E : Int) - 150)).toNat = 0 := by omega
  have e3 : (((127 : Nat) : Int) - 150 - ((E : Int) - 150)).toNat = 127 - E := by omega
  rw [e2, e3]
  have hp : 2 ^ 1 ≤ 2 ^ (127 - E) := Nat.pow_le_pow_right (by decide) (by omega)
  have hm : 8388608 * 2 ≤ 8388608 * 2 ^ (127 - E) := Nat.mul_le_mul_left _ hp
  congr 1
  show (if ((8388608 + t) * 2 ^ 0 : Nat) < ((((8388608 + 0) * 2 ^ (127 - E) : Nat)) : Int) then Ordering.lt else if _ = _ then Ordering.eq else Ordering.gt) = Ordering.lt
  rw [if_pos]
  rw [Nat.pow_zero, Nat.mul_one, Nat.add_zero]
  omega
theorem fcmp_ge {t : Nat} (ht : t < 8388608) : FP.fcmp (fU 127 t) (fU 127 0) = some .eq ∨ FP.fcmp (fU 127 t) (fU 127 0) = some .gt := by
  have h : FP.fcmp (fU 127 t) (fU 127 0) = some (if (((8388608 + t) * 2 ^ 0 : Nat) : Int) < (((8388608 + 0) * 2 ^ 0 : Nat) : Int) then Ordering.lt else if (((8388608 + t) * 2 ^ 0 : Nat) : Int) = (((8388608 + 0) * 2 ^ 0 : Nat) : Int) then Ordering.eq else Ordering.gt) := by
    show FP.Core.cmp FP.Core.b32 (fU 127 t).toNat (fU 127 0).toNat = _
    unfold FP.Core.cmp
    rw [fp_decU (by omega) (by omega) ht, fp_decU (by omega) (by omega) (by omega)]
    unfold FP.Core.order FP.Core.inUnits FP.Core.signed
    dsimp only
    have e1 : min (((127 : Nat) : Int) - 150) (((127 : Nat) : Int) - 150) = ((127 : Nat) : Int) - 150 := by omega
    have e2 : (((127 : Nat) : Int) - 150 - (((127 : Nat) : Int) - 150)).toNat = 0 := by omega
    rw [e1, e2]
    refine congrArg some ?_
    show compare (((8388608 + t) * 2 ^ 0 : Nat) : Int) (((8388608 + 0) * 2 ^ 0 : Nat) : Int) = _
    generalize (((8388608 + t) * 2 ^ 0 : Nat) : Int) = A
    generalize (((8388608 + 0) * 2 ^ 0 : Nat) : Int) = B
    rfl
  rw [h, if_neg (by omega)]
  split
  · exact Or.inl rfl
  · exact Or.inr rfl
theorem fcmp_self {E t : Nat} (h1 : 1 ≤ E) (h2 : E < 255) (ht : t < 8388608) : FP.fcmp (fU E t) (fU E t) = some .eq := by
  show FP.Core.cmp FP.Core.b32 (fU E t).toNat (fU E t).toNat = _
  unfold FP.Core.cmp
  rw [fp_decU h1 h2 ht]
  unfold FP.Core.order
  dsimp only
  congr 1
  generalize FP.Core.signed false (FP.Core.inUnits (8388608 + t) ((E : Int) - 150) (min ((E : Int) - 150) ((E : Int) - 150))) = z
  show (if z < z then Ordering.lt else if z = z then Ordering.eq else Ordering.gt) = Ordering.eq
  rw [if_neg (by omega), if_pos rfl]
theorem fmul_2 {E t : Nat} (h1 : 1 ≤ E) (h2 : E < 127) (ht : t < 8388608) : FP.fmul (fU E t) (fU 128 0) = fU (E + 1) t := by
  show UInt32.ofNat (FP.Core.mul FP.Core.b32 (fU E t).toNat (fU 128 0).toNat) = _
  unfold FP.Core.mul
  rw [fp_decU h1 (by omega) ht, fp_decU (by omega) (by omega) (by omega)]
  show UInt32.ofNat (FP.Core.encode FP.Core.b32 (FP.Core.roundRatio FP.Core.b32 false ((8388608 + t) * (8388608 + 0)) 1 ((E : Int) - 150 + (((128 : Nat) : Int) - 150)))) = _
  rw [show (8388608 + t) * (8388608 + 0) = (8388608 + t) * 2 ^ 23 from rfl, round_a (c := 8388608 + t) (a := 23) (q := ((E + 1 : Nat) : Int) - 150) (by omega) (by omega) (by omega) (by omega) (by omega), fp_enc (E := E + 1) (by omega) (by omega) rfl, Nat.add_sub_cancel_left]
theorem fsub_1 {t : Nat} (ht : t < 8388608) : FP.fsub (fU 127 t) (fU 127 0) = UInt32.ofNat (FP.Core.encode FP.Core.b32 (FP.Core.roundRatio FP.Core.b32 false t 1 (-23))) := by
  show UInt32.ofNat (FP.Core.sub FP.Core.b32 (fU 127 t).toNat (fU 127 0).toNat) = _
  unfold FP.Core.sub
  rw [fp_decU (by omega) (by omega) ht, fp_decU (by omega) (by omega) (by omega)]
  have e : FP.Core.exactSum (.fin false (8388608 + t) (((127 : Nat) : Int) - 150)) (FP.Core.negate (.fin false (8388608 + 0) (((127 : Nat) : Int) - 150))) = .fin false t (-23) := by
    unfold FP.Core.negate FP.Core.exactSum
    dsimp only
    have u : FP.Core.sumUnits false (8388608 + t) (((127 : Nat) : Int) - 150) (!false) (8388608 + 0) (((127 : Nat) : Int) - 150) (min (((127 : Nat) : Int) - 150) (((127 : Nat) : Int) - 150)) = (t : Int) := by
      show (((8388608 + t) * 2 ^ 0 : Nat) : Int) + -(((8388608 + 0) * 2 ^ 0 : Nat) : Int) = t
      omega
    rw [u]
    have s : FP.Core.sumSign false (!false) (t : Int) = false := by
      unfold FP.Core.sumSign
      split
      · rfl
      · exact decide_eq_false (by omega)
    rw [s]
    rfl
  rw [e]
  rfl
theorem frac_0 : FP.fsub (fU 127 0) (fU 127 0) = 0 ∧ FP.fmul 0 (fU 150 0) = 0 ∧ FP.f2i 0 = nI 0 := by
  refine ⟨?_, ?_, ?_⟩ <;> decide
theorem frac_n {t : Nat} (h0 : 1 ≤ t) (ht : t < 8388608) : ∃ E1 t1 E2 t2, FP.fsub (fU 127 t) (fU 127 0) = fU E1 t1 ∧ E1 < 255 ∧ t1 < 8388608 ∧ FP.fmul (fU E1 t1) (fU 150 0) = fU E2 t2 ∧ E2 < 255 ∧ t2 < 8388608 ∧ FP.f2i (fU E2 t2) = nI t := by
  obtain ⟨k, a1, a2⟩ := log_ex h0
  have hk : k ≤ 22 := log_le a1 (by rw [show 22 + 1 = 23 from rfl, two23]; exact ht)
  obtain ⟨b1, b2, b3⟩ := round_b (e := -23) (q := (k : Int) - 46) a1 a2 (by omega) (by omega) (by omega) (by omega)
  refine ⟨k + 104, t * 2 ^ (23 - k) - 8388608, k + 127, t * 2 ^ (23 - k) - 8388608, ?_, by omega, by omega, ?_, by omega, by omega, ?_⟩
  · rw [fsub_1 ht, b1, fp_enc (E := k + 104) (by omega) b2 (by omega)]
  · show UInt32.ofNat (FP.Core.mul FP.Core.b32 (fU (k + 104) _).toNat (fU 150 0).toNat) = _
    unfold FP.Core.mul
    rw [fp_decU (by omega) (by omega) (by omega), fp_decU (by omega) (by omega) (by omega), show 8388608 + (t * 2 ^ (23 - k) - 8388608) = t * 2 ^ (23 - k) by omega]
    show UInt32.ofNat (FP.Core.encode FP.Core.b32 (FP.Core.roundRatio FP.Core.b32 false (t * 2 ^ (23 - k) * (8388608 + 0)) 1 (((k + 104 : Nat) : Int) - 150 + (((150 : Nat) : Int) - 150)))) = _
    rw [show t * 2 ^ (23 - k) * (8388608 + 0) = t * 2 ^ (23 - k) * 2 ^ 23 from rfl, round_a (c := t * 2 ^ (23 - k)) (a := 23) (q := ((k + 127 : Nat) : Int) - 150) b2 b3 (by omega) (by omega) (by omega), fp_enc (E := k + 127) (by omega) b2 rfl]
  · show FP.Core.toI (FP.Core.decode FP.Core.b32 (fU (k + 127) _).toNat) = _
    rw [fp_decU (by omega) (by omega) (by omega), show 8388608 + (t * 2 ^ (23 - k) - 8388608) = t * 2 ^ (23 - k) by omega]
    unfold FP.Core.toI FP.Core.toInt FP.Core.truncate FP.Core.signed
    dsimp only
    have e1 : (((k + 127 : Nat) : Int) - 150).toNat = 0 := by omega
    have e2 : (-(((k + 127 : Nat) : Int) - 150)).toNat = 23 - k := by omega
    have hp : 0 < 2 ^ (23 - k) := Nat.pow_pos (by decide)
    rw [e1, e2, Nat.pow_zero, Nat.mul_one, Nat.mul_div_cancel _ hp]
    have e3 : max (-2 ^ 31) (min (2 ^ 31 - 1) (if false = true then -(t : Int) else (t : Int))) = (t : Int) := by
      rw [if_neg (by decide)]
      omega
    rw [e3]
    rfl
/-- the bits of a float that is not above 2, as the class reckons them -/
theorem b28 {σ : Sg} {M : Mem} {E t : Nat} (h1 : 1 ≤ E) (h2 : E ≤ 127) (ht : t < 8388608) (Q : Po) : wp 28 0 [some (.float (fU E t)), none, none, none] [] σ M Q = Q (some (.int (nI (E * 8388608 + t)))) σ M := by
  have rest : ∀ Q, wp 28 5 [some (.float (fU E t)), some (.float (fU 127 t)), some (.int (nI E)), none] [] σ M Q = Q (some (.int (nI (E * 8388608 + t)))) σ M := fun Q => by
    have z : ¬ Op.cmpValue (FP.fcmp (fU 127 t) (fU 127 0)) .g < 0 := by
      rcases fcmp_ge ht with h | h <;> rw [h] <;> decide
    have sh : nI E <<< (nI 23 &&& 31) = nI (E * 8388608) := by
      rw [pk_shlN _ 23 (s_31 23 (by omega)) (by rw [two23]; omega), two23]
    have or1 : nI (E * 8388608) ||| nI t = nI (E * 8388608 + t) := by
      rw [fa_or]
      have h := Nat.two_pow_add_eq_or_of_lt (i := 23) (b := t) (by rw [two23]; exact ht) E
      rw [two23] at h
      rw [Nat.mul_comm E 8388608, h]
    rw [k28_5]
    by_cases c : t = 0
    · subst c
      obtain ⟨f1, f2, f3⟩ := frac_0
      have n1 : nn32 0 = true := by decide
      simp only [k28_6, k28_7, k28_8, k28_11, k28_12, k28_13, k28_16, k28_17, k28_18, k28_19, k28_20, k28_23, k28_26, k28_27, k28_28, k28_29, k28_31, k28_32, k28_33, k28_34, k28_35, k28_37, k28_38, k28_39, k28_40, rf_s, pushR_s, pushR_n, le4_0, le4_1, le4_2, le4_3, le4_4, isLong_n, isLong_i, isLong_r, isLong_f, if_true, if_false, not_true_eq_false, not_false_eq_true, isI_0, isI_9, isAr_0, isAr_1, isAr_2, isAr_9, okR_i, okR_0, okR_1, putI_0, putI_b0, putI_b1, nI_10, nI_00, Nat.reduceLT, Nat.reduceLeDiff, nI_add, upM_s, upI_s, pk_mul, nf_at, fU_1, fU_23, z, f1, n1, f2, f3, sh, or1]
    · obtain ⟨E1, t1, E2, t2, f1, l1, l2, f2, l3, l4, f3⟩ := frac_n (t := t) (by omega) ht
      have n1 := nn_fU l1 l2
      have n2 := nn_fU l3 l4
      simp only [k28_6, k28_7, k28_8, k28_11, k28_12, k28_13, k28_16, k28_17, k28_18, k28_19, k28_20, k28_23, k28_26, k28_27, k28_28, k28_29, k28_31, k28_32, k28_33, k28_34, k28_35, k28_37, k28_38, k28_39, k28_40, rf_s, pushR_s, pushR_n, le4_0, le4_1, le4_2, le4_3, le4_4, isLong_n, isLong_i, isLong_r, isLong_f, if_true, if_false, not_true_eq_false, not_false_eq_true, isI_0, isI_9, isAr_0, isAr_1, isAr_2, isAr_9, okR_i, okR_0, okR_1, putI_0, putI_b0, putI_b1, nI_10, nI_00, Nat.reduceLT, Nat.reduceLeDiff, nI_add, upM_s, upI_s, pk_mul, nf_at, fU_1, fU_23, z, f1, n1, f2, n2, f3, sh, or1]
  simp only [k28_0, k28_1, k28_2, k28_4, rf_s, pushR_s, pushR_n, le4_0, le4_1, le4_2, le4_3, le4_4, isLong_n, isLong_i, isLong_r, isLong_f, if_true, if_false, not_true_eq_false, not_false_eq_true, isI_0, isI_9, isAr_0, isAr_1, isAr_2, isAr_9, okR_i, okR_0, okR_1, putI_0, putI_b0, putI_b1, nI_10, nI_00, Nat.reduceLT, Nat.reduceLeDiff, nI_add, upM_s, upI_s, pk_mul, nf_at]
  have loop : ∀ j, j ≤ 127 - E → wp 28 5 [some (.float (fU E t)), some (.float (fU E t)), some (.int (nI 127)), none] [] σ M Q = wp 28 5 [some (.float (fU E t)), some (.float (fU (E + j) t)), some (.int (nI (127 - j))), none] [] σ M Q := by
    intro j
    induction j with
    | zero => intro _; rfl
    | succ j ih =>
      intro hj
      rw [ih (by omega), k28_5]
      have z : Op.cmpValue (FP.fcmp (fU (E + j) t) (fU 127 0)) .g < 0 := by rw [fcmp_lt (by omega) (by omega) ht]; decide
      have z2 : nI 1 < nI (127 - j) := nI_lt (by omega) (by omega)
      have z3 : ¬ nI (127 - j) ≤ nI 1 := nI_ge (by omega) (by omega)
      have f := fmul_2 (E := E + j) (t := t) (by omega) (by omega) ht
      have n := nn_fU (E := E + j + 1) (t := t) (by omega) ht
      have d : nI (127 - j) + -1 = nI (127 - (j + 1)) := by
        have h1 : nI (127 - j) = nI (127 - (j + 1)) + nI 1 := by rw [nI_add, show 127 - (j + 1) + 1 = 127 - j by omega]
        have h2 : nI 1 + -1 = 0 := by decide
        rw [h1, Int32.add_assoc, h2, Int32.add_zero]
      simp only [k28_6, k28_7, k28_8, k28_11, k28_12, k28_13, k28_16, k28_17, k28_18, k28_19, k28_20, k28_23, rf_s, pushR_s, pushR_n, le4_0, le4_1, le4_2, le4_3, le4_4, isLong_n, isLong_i, isLong_r, isLong_f, if_true, if_false, not_true_eq_false, not_false_eq_true, isI_0, isI_9, isAr_0, isAr_1, isAr_2, isAr_9, okR_i, okR_0, okR_1, putI_0, putI_b0, putI_b1, nI_10, nI_00, Nat.reduceLT, Nat.reduceLeDiff, nI_add, upM_s, upI_s, pk_mul, nf_at, fU_1, fU_2, z, z2, z3, f, n, d]
      rfl
  rw [loop (127 - E) (Nat.le_refl _), show E + (127 - E) = 127 by omega, show 127 - (127 - E) = E by omega]
  exact rest Q
