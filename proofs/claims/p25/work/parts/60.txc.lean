section TXC
variable {σ : Sg} {M : Mem} {I : Nat → Nat} {s s' : Nat → Nat} {H : Nat → Nat → Nat} {n len : Nat} {T : Nat → Nat} {r : Int32}
theorem c19 (L : ClL σ M I s H n len T) (o : rUndo n r) : ∃ M', (∀ Q, wp 19 0 [some (.ref 0)] [] σ M Q = Q (some (.int r)) σ M') ∧ (n = 0 → ClL σ M' I s H n len T) ∧ (n ≠ 0 → ClL σ M' I (H (n - 1)) H (n - 1) len T) ∧ ∀ o, 106 ≤ o → M' o = M o := by
  have L0 := L
  obtain ⟨hk, hh, hc, R, i, ⟨h1, hn⟩, hH, hT, ⟨V, v⟩, ⟨U, u⟩⟩ := L
  rcases o with ⟨c, e⟩ | ⟨c, e⟩
  · subst e c
    refine ⟨M, fun Q => ?_, fun _ => L0, fun q => absurd rfl q, fun _ _ => rfl⟩
    have z : nI 0 < nI 1 := by decide
    simp only [k19_0, k19_1, k19_4, k19_5, k19_8, k19_11, k67_0, k67_1, k67_4, k67_5, k67_8, k67_9, k67_12, k67_13, k67_16, k67_17, k67_20, k67_22, k67_23, k67_24i, k67_24r, k67_24f, k67_25, k67_28, k67_29, k67_30, k67_33, k67_34, k67_37, k67_38, k67_41, k67_42, k67_43, k67_46, k67_47, k67_50, ia_t hk.1, ia_r0 hk.1, ia_r1 hk.1, ia_r2 hk.1, ia_r3 hk.1, ia_r4 hk.1, ia_r5 hk.1, ih_t27 hh, rf_s, pushR_s, pushR_n, le4_0, le4_1, le4_2, le4_3, le4_4, isLong_n, isLong_i, isLong_r, isLong_f, if_true, if_false, not_true_eq_false, not_false_eq_true, isI_0, isI_9, isAr_0, isAr_1, isAr_2, isAr_9, okR_i, okR_0, okR_1, putI_0, putI_b0, putI_b1, nI_10, nI_00, Nat.reduceLT, Nat.reduceLeDiff, nI_add, upM_s, upI_s, pk_mul, nf_at, h1, z]
  · subst e
    have z : ¬ nI n < nI 1 := nI_nlt (by omega) (by omega)
    have z2 : ¬ nI 5 < nI n := nI_nlt (by omega) (by omega)
    have d : nI n - nI 1 = nI (n - 1) := pk_sub (by omega)
    have hn5 : n - 1 < 5 := by omega
    obtain ⟨a, b, c'⟩ := hH (n - 1) (by omega)
    obtain ⟨g1, g2, g3⟩ := ih_g hh (n - 1) hn5
    have fr : ∀ (f : Nat → Int32) o, o ≠ 27 → upM M 27 f o = M o := fun f o h => upM_n h
    have a1 : RG (upM M 27 (upI (M 27) 1 (nI (n - 1)))) (I (n - 1)) (H (n - 1)) := RG_o a b.2.2.2.2.2 (fun o h1 h2 => fr _ o (by omega))
    obtain ⟨N, b1, b2, b3⟩ := c37 g1 hk.2.1 (Or.inr (by omega)) a1 b
    have fN : ∀ o, 13 < o → o ≠ 27 → N o = M o := fun o h1 h2 => by rw [b3 o (by omega)]; exact fr _ o h2
    have e27 : N 27 1 = nI (n - 1) := by rw [b3 27 (by omega), upM_s, upI_s]
    refine ⟨N, fun Q => ?_, fun q => absurd q c, fun _ => ⟨hk, hh, IsC_fr hc (fN 1001 (by omega) (by omega)) (fN 1002 (by omega) (by omega)), b2, ⟨b, c'⟩, ⟨e27, by omega⟩, fun j hj => ?_, ⟨by rw [fN 103 (by omega) (by omega)]; exact hT.1, fun j hj => by rw [fN 104 (by omega) (by omega)]; exact hT.2 j hj⟩, ⟨V, RW_fr v (fN 95 (by omega) (by omega)) (fN (95 + 1) (by omega) (by omega))⟩, ⟨U, RW_fr u (fN 101 (by omega) (by omega)) (fN (101 + 1) (by omega) (by omega))⟩⟩, fun o ho => fN o (by omega) (by omega)⟩
    · simp only [k19_0, k19_1, k19_4, k19_5, k19_8, k19_11, k67_0, k67_1, k67_4, k67_5, k67_8, k67_9, k67_12, k67_13, k67_16, k67_17, k67_20, k67_22, k67_23, k67_24i, k67_24r, k67_24f, k67_25, k67_28, k67_29, k67_30, k67_33, k67_34, k67_37, k67_38, k67_41, k67_42, k67_43, k67_46, k67_47, k67_50, ia_t hk.1, ia_r0 hk.1, ia_r1 hk.1, ia_r2 hk.1, ia_r3 hk.1, ia_r4 hk.1, ia_r5 hk.1, ih_t27 hh, ih_r0 hh, ih_t28 hh, ih_l28 hh, ih_rs hh, rf_s, pushR_s, pushR_n, le4_0, le4_1, le4_2, le4_3, le4_4, isLong_n, isLong_i, isLong_r, isLong_f, if_true, if_false, not_true_eq_false, not_false_eq_true, isI_0, isI_9, isAr_0, isAr_1, isAr_2, isAr_9, okR_i, okR_0, okR_1, putI_0, putI_b0, putI_b1, nI_10, nI_00, Nat.reduceLT, Nat.reduceLeDiff, nI_add, upM_s, upI_s, pk_mul, nf_at, h1, z, z2, d, hn5, b1, e27]
    · obtain ⟨x, y, w⟩ := hH j (by omega)
      have q := ih_g hh j (by omega)
      exact ⟨RG_o x y.2.2.2.2.2 (fun o h1 h2 => fN o (by omega) (by omega)), y, w⟩
theorem i2c_n {c : Nat} (h : c < 65536) : ((nI c).toUInt32 % 65536).toInt32 = nI c := by rw [pk_char, pk_tn (by omega), Nat.mod_eq_of_lt h]
theorem nar_n {c : Nat} (h : c < 65536) : vp_nar .char (nI c) = nI c := by
  unfold vp_nar
  rw [(pk_charN h).1]
theorem c20 (L : ClL σ M I s H n len T) (hl : len ≤ 60) {x : Int32} (o : rType len x r) : ∃ M', (∀ Q, wp 20 0 [some (.ref 0), some (.int x)] [] σ M Q = Q (some (.int r)) σ M') ∧ (r ≠ nI (len + 1) → ClL σ M' I s H n len T) ∧ (∀ c, x = nI c → r = nI (len + 1) → ClL σ M' I s H n (len + 1) (upN T len c)) ∧ ∀ o, 106 ≤ o → M' o = M o := by
  have L0 := L
  obtain ⟨hk, hh, hc, R, i, h1, hH, hT, ⟨V, v⟩, ⟨U, u⟩⟩ := L
  have hd := hk.2.2.2.2.2
  have z0 : ¬ nI len < 0 := nI_pos (by omega)
  have hT1 := hT.1
  rcases o with ⟨c, b1, b2, e, ⟨q, er⟩ | ⟨q, er⟩⟩ | ⟨q, er⟩
  · subst e er
    have il := inI_c (v := nI c) (a := 32) (b := 126) (by omega) (by omega) b1 b2 rfl
    refine ⟨M, fun Q => ?_, fun _ => L0, fun c' _ e => absurd e (by rw [q]; decide), fun _ _ => rfl⟩
    have z : ¬ nI len < nI 60 := nI_nlt (by omega) (by omega)
    simp only [k20_0, k20_1, k20_4, k20_5, k20_8, k69_0, k69_1, k69_3, k69_5, k69_8, k69_11, k69_13, k69_14, k69_15, k69_18, k69_21, k69_22, k69_25, k69_26, k69_29, k69_30, k69_33, k69_35, k69_36, k69_37, k69_40, k69_41, k69_44, k69_45, k69_46, k69_47, k69_48i, k69_48r, k69_48f, k69_49, k69_52, k69_53, k69_54, k69_57, k69_58, k69_61, ia_t hk.1, ia_r0 hk.1, ia_r1 hk.1, ia_r2 hk.1, ia_r3 hk.1, ia_r4 hk.1, ia_r5 hk.1, id_t103 hd, id_r0 hd, id_r3 hd, id_t104 hd, id_l104 hd, id_t105 hd, id_l105 hd, rf_s, pushR_s, pushR_n, le4_0, le4_1, le4_2, le4_3, le4_4, isLong_n, isLong_i, isLong_r, isLong_f, if_true, if_false, not_true_eq_false, not_false_eq_true, isI_0, isI_9, isAr_0, isAr_1, isAr_2, isAr_9, okR_i, okR_0, okR_1, putI_0, putI_b0, putI_b1, nI_10, nI_00, Nat.reduceLT, Nat.reduceLeDiff, nI_add, upM_s, upI_s, pk_mul, nf_at, c24, il, hT1, z0, z]
  · subst e er
    have il := inI_c (v := nI c) (a := 32) (b := 126) (by omega) (by omega) b1 b2 rfl
    have z : nI len < nI 60 := nI_lt q (by omega)
    have e1 := i2c_n (c := c) (by omega)
    have e2 := nar_n (c := c) (by omega)
    have u1 : ∀ f, upM M 104 f 103 = M 103 := fun f => rfl
    have fr : ∀ f g o, o ≠ 103 → o ≠ 104 → upM (upM M 104 f) 103 g o = M o := fun f g o h h2 => by rw [upM_n h, upM_n h2]
    refine ⟨upM (upM M 104 (upI (M 104) len (nI c))) 103 (upI (M 103) 1 (nI (len + 1))), fun Q => ?_, fun e => absurd rfl e, fun c' e _ => ?_, fun o ho => fr _ _ o (by omega) (by omega)⟩
    · simp only [k20_0, k20_1, k20_4, k20_5, k20_8, k69_0, k69_1, k69_3, k69_5, k69_8, k69_11, k69_13, k69_14, k69_15, k69_18, k69_21, k69_22, k69_25, k69_26, k69_29, k69_30, k69_33, k69_35, k69_36, k69_37, k69_40, k69_41, k69_44, k69_45, k69_46, k69_47, k69_48i, k69_48r, k69_48f, k69_49, k69_52, k69_53, k69_54, k69_57, k69_58, k69_61, ia_t hk.1, ia_r0 hk.1, ia_r1 hk.1, ia_r2 hk.1, ia_r3 hk.1, ia_r4 hk.1, ia_r5 hk.1, id_t103 hd, id_r0 hd, id_r3 hd, id_t104 hd, id_l104 hd, id_t105 hd, id_l105 hd, rf_s, pushR_s, pushR_n, le4_0, le4_1, le4_2, le4_3, le4_4, isLong_n, isLong_i, isLong_r, isLong_f, if_true, if_false, not_true_eq_false, not_false_eq_true, isI_0, isI_9, isAr_0, isAr_1, isAr_2, isAr_9, okR_i, okR_0, okR_1, putI_0, putI_b0, putI_b1, nI_10, nI_00, Nat.reduceLT, Nat.reduceLeDiff, nI_add, upM_s, upI_s, pk_mul, nf_at, c24, il, hT1, z0, z, q, e1, e2, u1]
    · refine ⟨hk, hh, IsC_fr hc (fr _ _ 1001 (by decide) (by decide)) (fr _ _ 1002 (by decide) (by decide)), RG_o R i.1.2.2.2.2.2 (fun o h1 h2 => fr _ _ o (by omega) (by omega)), i, h1, fun j hj => ?_, ⟨?_, fun j hj => ?_⟩, ⟨V, RW_fr v (fr _ _ 95 (by decide) (by decide)) (fr _ _ (95 + 1) (by decide) (by decide))⟩, ⟨U, RW_fr u (fr _ _ 101 (by decide) (by decide)) (fr _ _ (101 + 1) (by decide) (by decide))⟩⟩
      · obtain ⟨x, y, w⟩ := hH j hj
        have q := ih_g hh j (by have := h1.2; omega)
        exact ⟨RG_o x y.2.2.2.2.2 (fun o h1 h2 => fr _ _ o (by omega) (by omega)), y, w⟩
      · rw [upM_s, upI_s]
      · rw [upM_n (by decide), upM_s]
        unfold upI upN
        by_cases cj : j = len
        · rw [if_pos cj, if_pos cj, e]
        · rw [if_neg cj, if_neg cj]
          exact hT.2 j (by omega)
  · subst er
    have il := inI_d (v := x) (a := 32) (b := 126) (by omega) (by omega) q
    have z : ¬ (-1000000001 : Int32) = nI (len + 1) := fun e => by
      have h := congrArg Int32.toInt e
      rw [nI_toInt (by omega)] at h
      have h2 : Int32.toInt (-1000000001) = -1000000001 := by decide
      omega
    refine ⟨M, fun Q => ?_, fun _ => L0, fun c' _ e => absurd e z, fun _ _ => rfl⟩
    simp only [k20_0, k20_1, k20_4, k20_5, k20_8, k69_0, k69_1, k69_3, k69_5, k69_8, k69_11, k69_13, k69_14, k69_15, k69_18, k69_21, k69_22, k69_25, k69_26, k69_29, k69_30, k69_33, k69_35, k69_36, k69_37, k69_40, k69_41, k69_44, k69_45, k69_46, k69_47, k69_48i, k69_48r, k69_48f, k69_49, k69_52, k69_53, k69_54, k69_57, k69_58, k69_61, ia_t hk.1, ia_r0 hk.1, ia_r1 hk.1, ia_r2 hk.1, ia_r3 hk.1, ia_r4 hk.1, ia_r5 hk.1, id_t103 hd, id_r0 hd, id_r3 hd, id_t104 hd, id_l104 hd, id_t105 hd, id_l105 hd, rf_s, pushR_s, pushR_n, le4_0, le4_1, le4_2, le4_3, le4_4, isLong_n, isLong_i, isLong_r, isLong_f, if_true, if_false, not_true_eq_false, not_false_eq_true, isI_0, isI_9, isAr_0, isAr_1, isAr_2, isAr_9, okR_i, okR_0, okR_1, putI_0, putI_b0, putI_b1, nI_10, nI_00, Nat.reduceLT, Nat.reduceLeDiff, nI_add, upM_s, upI_s, pk_mul, nf_at, c24, il]
theorem c21 (L : ClL σ M I s H n len T) : ∃ M', (∀ Q, wp 21 0 [some (.ref 0)] [] σ M Q = Q (some (.int (nI len))) σ M') ∧ ClL σ M' I s H n 0 T ∧ ∀ o, 106 ≤ o → M' o = M o := by
  obtain ⟨hk, hh, hc, R, i, h1, hH, hT, ⟨V, v⟩, ⟨U, u⟩⟩ := L
  have hd := hk.2.2.2.2.2
  have hT1 := hT.1
  have fr : ∀ g o, o ≠ 103 → upM M 103 g o = M o := fun g o h => upM_n h
  refine ⟨upM M 103 (upI (M 103) 1 (nI 0)), fun Q => ?_, ⟨hk, hh, IsC_fr hc (fr _ 1001 (by decide)) (fr _ 1002 (by decide)), RG_o R i.1.2.2.2.2.2 (fun o h1 h2 => fr _ o (by omega)), i, h1, fun j hj => ?_, ⟨by rw [upM_s, upI_s], fun j hj => absurd hj (Nat.not_lt_zero _)⟩, ⟨V, RW_fr v (fr _ 95 (by decide)) (fr _ (95 + 1) (by decide))⟩, ⟨U, RW_fr u (fr _ 101 (by decide)) (fr _ (101 + 1) (by decide))⟩⟩, fun o ho => fr _ o (by omega)⟩
  · simp only [k21_0, k21_1, k21_4, k21_7, k70_0, k70_1, k70_4, k70_5, k70_6, k70_7, k70_10, k70_11, ia_t hk.1, ia_r0 hk.1, ia_r1 hk.1, ia_r2 hk.1, ia_r3 hk.1, ia_r4 hk.1, ia_r5 hk.1, id_t103 hd, id_r0 hd, id_r3 hd, id_t104 hd, id_l104 hd, id_t105 hd, id_l105 hd, rf_s, pushR_s, pushR_n, le4_0, le4_1, le4_2, le4_3, le4_4, isLong_n, isLong_i, isLong_r, isLong_f, if_true, if_false, not_true_eq_false, not_false_eq_true, isI_0, isI_9, isAr_0, isAr_1, isAr_2, isAr_9, okR_i, okR_0, okR_1, putI_0, putI_b0, putI_b1, nI_10, nI_00, Nat.reduceLT, Nat.reduceLeDiff, nI_add, upM_s, upI_s, pk_mul, nf_at, hT1]
  · obtain ⟨x, y, w⟩ := hH j hj
    have q := ih_g hh j (by have := h1.2; omega)
    exact ⟨RG_o x y.2.2.2.2.2 (fun o h1 h2 => fr _ o (by omega)), y, w⟩
/-! the class reads -/
def TD (M M' : Mem) : Prop := (∀ o, o ≠ 103 → o ≠ 105 → M' o = M o) ∧ ∀ i, i ≠ 4 → M' 103 i = M 103 i
def Ty (M : Mem) (len : Nat) (T : Nat → Nat) : Prop := M 103 1 = nI len ∧ (∀ j, j < len → M 104 j = nI (T j)) ∧ len ≤ 60 ∧ ∀ j, j < len → T j ≤ 126
theorem TD_r : TD M M := ⟨fun _ _ _ => rfl, fun _ _ => rfl⟩
theorem TD_t {N P : Mem} (h : TD M N) (k : TD N P) : TD M P := ⟨fun o a b => (k.1 o a b).trans (h.1 o a b), fun i a => (k.2 i a).trans (h.2 i a)⟩
theorem TD_at {x : Int32} : TD M (upM M 103 (upI (M 103) 4 x)) := ⟨fun o h _ => upM_n h, fun i h => by rw [upM_s, upI_n h]⟩
theorem Ty_f {N : Mem} (h : Ty M len T) (k : TD M N) : Ty N len T := ⟨by rw [k.2 1 (by decide)]; exact h.1, fun j hj => by rw [k.1 104 (by decide) (by decide)]; exact h.2.1 j hj, h.2.2⟩
def cs (T : Nat → Nat) (len p : Nat) : Nat := if p < len then T p else 0
theorem cs_lt (h : ∀ j, j < len → T j ≤ 126) {p : Nat} : cs T len p ≤ 126 := by
  unfold cs
  split
  · rename_i c
    exact h p c
  · omega
theorem c76 (hd : IsD σ) (h : Ty M len T) {p : Nat} (hp : M 103 4 = nI p) (hl : p ≤ len) (Q : Po) : wp 76 0 [some (.ref 103)] [] σ M Q = Q (some (.int (nI (cs T len p)))) σ M := by
  obtain ⟨h1, h2, h3, h4⟩ := h
  have z0 : ¬ nI p < 0 := nI_pos (by omega)
  have ok := okR_c (k := cs T len p) (by have := cs_lt h4 (p := p); omega)
  unfold cs at ok ⊢
  by_cases c : p < len
  · have e : nI p < nI len := nI_lt c (by omega)
    have hi : p < 60 := by omega
    have e2 : nI p < nI 60 := nI_lt hi (by omega)
    have h2' := h2 p c
    rw [if_pos c] at ok ⊢
    simp only [k76_0, k76_1, k76_4, k76_7, k76_8, k76_11, k76_12, k76_15, k76_18, k76_19, k76_22, k76_23, k76_26, k76_27, k76_30, k76_31, k76_34, k76_35, k76_38, k76_39, k76_42, k76_43, id_t103 hd, id_r0 hd, id_r3 hd, id_t104 hd, id_l104 hd, id_t105 hd, id_l105 hd, rf_s, pushR_s, pushR_n, le4_0, le4_1, le4_2, le4_3, le4_4, isLong_n, isLong_i, isLong_r, isLong_f, if_true, if_false, not_true_eq_false, not_false_eq_true, isI_0, isI_9, isAr_0, isAr_1, isAr_2, isAr_9, okR_i, okR_0, okR_1, putI_0, putI_b0, putI_b1, nI_10, nI_00, Nat.reduceLT, Nat.reduceLeDiff, nI_add, upM_s, upI_s, pk_mul, nf_at, hp, h1, z0, e, e2, hi, h2', ok]
  · have e : ¬ nI p < nI len := nI_nlt (by omega) (by omega)
    rw [if_neg c] at ok ⊢
    simp only [k76_0, k76_1, k76_4, k76_7, k76_8, k76_11, k76_12, k76_15, k76_18, k76_19, k76_22, k76_23, k76_26, k76_27, k76_30, k76_31, k76_34, k76_35, k76_38, k76_39, k76_42, k76_43, id_t103 hd, id_r0 hd, id_r3 hd, id_t104 hd, id_l104 hd, id_t105 hd, id_l105 hd, rf_s, pushR_s, pushR_n, le4_0, le4_1, le4_2, le4_3, le4_4, isLong_n, isLong_i, isLong_r, isLong_f, if_true, if_false, not_true_eq_false, not_false_eq_true, isI_0, isI_9, isAr_0, isAr_1, isAr_2, isAr_9, okR_i, okR_0, okR_1, putI_0, putI_b0, putI_b1, nI_10, nI_00, Nat.reduceLT, Nat.reduceLeDiff, nI_add, upM_s, upI_s, pk_mul, nf_at, hp, h1, z0, e, ok]
theorem cs_chr {p c : Nat} (hc : 0 < c) : (chr T len p c = 1 ∧ cs T len p = c) ∨ (chr T len p c = 0 ∧ cs T len p ≠ c) := by
  unfold chr cs
  by_cases h : p < len
  · rw [if_pos h]
    by_cases h2 : T p = c
    · left; rw [if_pos ⟨h, h2⟩]; exact ⟨rfl, h2⟩
    · right; rw [if_neg (fun q => h2 q.2)]; exact ⟨rfl, h2⟩
  · right
    rw [if_neg h, if_neg (fun q => h q.1)]
    exact ⟨rfl, by omega⟩
theorem c77y (hd : IsD σ) (h : Ty M len T) {p c : Nat} (hp : M 103 4 = nI p) (hl : p ≤ len) (hc : 0 < c) (hc2 : c < 200) (hy : chr T len p c = 1) (Q : Po) : wp 77 0 [some (.ref 103), some (.int (nI c))] [] σ M Q = Q (some (.int (nI 1))) σ (upM M 103 (upI (M 103) 4 (nI (p + 1)))) := by
  have m := fun Q => c76 (Q := Q) hd h hp hl
  rcases cs_chr (T := T) (len := len) (p := p) hc with ⟨_, e⟩ | ⟨e, _⟩
  · rw [e] at m
    simp only [k77_0, k77_1, k77_4, k77_5, k77_8, k77_9, k77_10, k77_11i, k77_11r, k77_11f, k77_12, k77_15, k77_16, k77_17, k77_20, k77_21, id_t103 hd, id_r0 hd, id_r3 hd, id_t104 hd, id_l104 hd, id_t105 hd, id_l105 hd, rf_s, pushR_s, pushR_n, le4_0, le4_1, le4_2, le4_3, le4_4, isLong_n, isLong_i, isLong_r, isLong_f, if_true, if_false, not_true_eq_false, not_false_eq_true, isI_0, isI_9, isAr_0, isAr_1, isAr_2, isAr_9, okR_i, okR_0, okR_1, putI_0, putI_b0, putI_b1, nI_10, nI_00, Nat.reduceLT, Nat.reduceLeDiff, nI_add, upM_s, upI_s, pk_mul, nf_at, m, hp]
  · omega
theorem c77n (hd : IsD σ) (h : Ty M len T) {p c : Nat} (hp : M 103 4 = nI p) (hl : p ≤ len) (hc : 0 < c) (hc2 : c < 200) (hn : chr T len p c = 0) (Q : Po) : wp 77 0 [some (.ref 103), some (.int (nI c))] [] σ M Q = Q (some (.int (nI 0))) σ M := by
  have m := fun Q => c76 (Q := Q) hd h hp hl
  have b := cs_lt h.2.2.2 (p := p)
  rcases cs_chr (T := T) (len := len) (p := p) hc with ⟨e, _⟩ | ⟨_, e⟩
  · omega
  · have z : ¬ nI (cs T len p) = nI c := ne_n (by omega) (by omega) e
    simp only [k77_0, k77_1, k77_4, k77_5, k77_8, k77_9, k77_10, k77_11i, k77_11r, k77_11f, k77_12, k77_15, k77_16, k77_17, k77_20, k77_21, id_t103 hd, id_r0 hd, id_r3 hd, id_t104 hd, id_l104 hd, id_t105 hd, id_l105 hd, rf_s, pushR_s, pushR_n, le4_0, le4_1, le4_2, le4_3, le4_4, isLong_n, isLong_i, isLong_r, isLong_f, if_true, if_false, not_true_eq_false, not_false_eq_true, isI_0, isI_9, isAr_0, isAr_1, isAr_2, isAr_9, okR_i, okR_0, okR_1, putI_0, putI_b0, putI_b1, nI_10, nI_00, Nat.reduceLT, Nat.reduceLeDiff, nI_add, upM_s, upI_s, pk_mul, nf_at, m, z]
theorem c78L (hd : IsD σ) (k : Nat) : ∀ (q p v : Nat) (M : Mem), q ≤ 4 → M 103 4 = nI p → Ty M len T → p ≤ len → ∃ M', (∀ Q, wp 78 4 [some (.ref 103), some (.int (nI k)), some (.int (nI v)), some (.int (nI (4 - q)))] [] σ M Q = wp 78 56 [some (.ref 103), some (.int (nI k)), some (.int (nI (num T len q p v).2)), some (.int (nI (4 - q + ((num T len q p v).1 - p))))] [] σ M' Q) ∧ M' 103 4 = nI (num T len q p v).1 ∧ TD M M' ∧ M' 105 = M 105
  | 0, p, v, M, hq, hp, ty, hl => by
    refine ⟨M, fun Q => ?_, hp, TD_r, rfl⟩
    have z : ¬ nI 4 < nI 4 := by decide
    show wp 78 4 [some (.ref 103), some (.int (nI k)), some (.int (nI v)), some (.int (nI 4))] [] σ M Q = wp 78 56 [some (.ref 103), some (.int (nI k)), some (.int (nI v)), some (.int (nI (4 + (p - p))))] [] σ M Q
    rw [k78_4, Nat.sub_self]
    simp only [k78_5, k78_6, rf_s, pushR_s, pushR_n, le4_0, le4_1, le4_2, le4_3, le4_4, isLong_n, isLong_i, isLong_r, isLong_f, if_true, if_false, not_true_eq_false, not_false_eq_true, isI_0, isI_9, isAr_0, isAr_1, isAr_2, isAr_9, okR_i, okR_0, okR_1, putI_0, putI_b0, putI_b1, nI_10, nI_00, Nat.reduceLT, Nat.reduceLeDiff, nI_add, upM_s, upI_s, pk_mul, nf_at, z]
  | q + 1, p, v, M, hq, hp, ty, hl => by
    have e : nI (4 - (q + 1)) < nI 4 := nI_lt (by omega) (by omega)
    have m := fun Q => c76 (Q := Q) hd ty hp hl
    have b := cs_lt ty.2.2.2 (p := p)
    by_cases c : dg T len p = 1
    · have d := dg_1 c
      have es : cs T len p = T p := if_pos d.1
      rw [es] at m
      have z1 : ¬ nI (T p) < nI 48 := nI_nlt (by omega) (by omega)
      have z2 : ¬ nI 57 < nI (T p) := nI_nlt (by omega) (by omega)
      have sb : nI (T p) - nI 48 = nI (T p - 48) := pk_sub (by omega)
      have en : num T len (q + 1) p v = num T len q (p + 1) (10 * v + T p - 48) := if_pos c
      have ev : v * 10 + (T p - 48) = 10 * v + T p - 48 := by omega
      have ge := num_ge (T := T) (len := len) q (p + 1) (10 * v + T p - 48)
      obtain ⟨M', a1, a2, a3, a4⟩ := c78L hd k q (p + 1) (10 * v + T p - 48) (upM M 103 (upI (M 103) 4 (nI (p + 1)))) (by omega) (by rw [upM_s, upI_s]) (Ty_f ty TD_at) (by omega)
      rw [← en] at a1 a2 ge
      have ed : 4 - (q + 1) + ((num T len (q + 1) p v).1 - p) = 4 - q + ((num T len (q + 1) p v).1 - (p + 1)) := by omega
      have ed2 : 4 - (q + 1) + 1 = 4 - q := by omega
      refine ⟨M', fun Q => ?_, a2, TD_t TD_at a3, by rw [a4, upM_n (by decide)]⟩
      rw [ed, ← a1, k78_4]
      simp only [k78_5, k78_6, k78_9, k78_10, k78_13, k78_15, k78_18, k78_19, k78_22, k78_24, k78_27, k78_28, k78_30, k78_31, k78_32, k78_35, k78_37, k78_38, k78_39, k78_40, k78_43, k78_44i, k78_44r, k78_44f, k78_45, k78_48, k78_49, k78_50, k78_53, id_t103 hd, id_r0 hd, id_r3 hd, id_t104 hd, id_l104 hd, id_t105 hd, id_l105 hd, rf_s, pushR_s, pushR_n, le4_0, le4_1, le4_2, le4_3, le4_4, isLong_n, isLong_i, isLong_r, isLong_f, if_true, if_false, not_true_eq_false, not_false_eq_true, isI_0, isI_9, isAr_0, isAr_1, isAr_2, isAr_9, okR_i, okR_0, okR_1, putI_0, putI_b0, putI_b1, nI_10, nI_00, Nat.reduceLT, Nat.reduceLeDiff, nI_add, upM_s, upI_s, pk_mul, nf_at, e, m, z1, z2, sb, ev, ed2, hp]
    · have en : num T len (q + 1) p v = (p, v) := num_n c _
      rw [en]
      refine ⟨M, fun Q => ?_, hp, TD_r, rfl⟩
      show _ = wp 78 56 [some (.ref 103), some (.int (nI k)), some (.int (nI v)), some (.int (nI (4 - (q + 1) + (p - p))))] [] σ M Q
      rw [Nat.sub_self, k78_4]
      by_cases c1 : cs T len p < 48
      · have z1 : nI (cs T len p) < nI 48 := nI_lt c1 (by omega)
        simp only [k78_5, k78_6, k78_9, k78_10, k78_13, k78_15, k78_18, k78_19, k78_22, k78_24, id_t103 hd, id_r0 hd, id_r3 hd, id_t104 hd, id_l104 hd, id_t105 hd, id_l105 hd, rf_s, pushR_s, pushR_n, le4_0, le4_1, le4_2, le4_3, le4_4, isLong_n, isLong_i, isLong_r, isLong_f, if_true, if_false, not_true_eq_false, not_false_eq_true, isI_0, isI_9, isAr_0, isAr_1, isAr_2, isAr_9, okR_i, okR_0, okR_1, putI_0, putI_b0, putI_b1, nI_10, nI_00, Nat.reduceLT, Nat.reduceLeDiff, nI_add, upM_s, upI_s, pk_mul, nf_at, e, m, z1, Nat.add_zero]
      · have z1 : ¬ nI (cs T len p) < nI 48 := nI_nlt (by omega) (by omega)
        have c2 : 57 < cs T len p := by
          unfold cs dg at *
          by_cases h : p < len
          · rw [if_pos h] at c1 ⊢
            by_cases c2 : T p ≤ 57
            · exact absurd (if_pos ⟨h, by omega, c2⟩) c
            · omega
          · rw [if_neg h] at c1
            omega
        have z2 : nI 57 < nI (cs T len p) := nI_lt c2 (by omega)
        simp only [k78_5, k78_6, k78_9, k78_10, k78_13, k78_15, k78_18, k78_19, k78_22, k78_24, id_t103 hd, id_r0 hd, id_r3 hd, id_t104 hd, id_l104 hd, id_t105 hd, id_l105 hd, rf_s, pushR_s, pushR_n, le4_0, le4_1, le4_2, le4_3, le4_4, isLong_n, isLong_i, isLong_r, isLong_f, if_true, if_false, not_true_eq_false, not_false_eq_true, isI_0, isI_9, isAr_0, isAr_1, isAr_2, isAr_9, okR_i, okR_0, okR_1, putI_0, putI_b0, putI_b1, nI_10, nI_00, Nat.reduceLT, Nat.reduceLeDiff, nI_add, upM_s, upI_s, pk_mul, nf_at, e, m, z1, z2, Nat.add_zero]
theorem c78 (hd : IsD σ) (ty : Ty M len T) {k p : Nat} (hk : k < 3) (hp : M 103 4 = nI p) (hl : p ≤ len) : ∃ M', (∀ Q, wp 78 0 [some (.ref 103), some (.int (nI k)), none, none] [] σ M Q = Q (some (.int (nI (dg T len p)))) σ M') ∧ M' 103 4 = nI (num T len 4 p 0).1 ∧ TD M M' ∧ M' 105 = upI (M 105) k (nI (num T len 4 p 0).2) := by
  obtain ⟨N, a1, a2, a3, a4⟩ := c78L hd k 4 p 0 M (by omega) hp ty hl
  have z : ¬ nI k < 0 := nI_pos (by omega)
  have z2 : nI k < nI 3 := nI_lt hk (by omega)
  have ge := num_ge (T := T) (len := len) 4 p 0
  have le := num_le (T := T) (len := len) 4 p 0 hl
  have l60 := ty.2.2.1
  refine ⟨upM N 105 (upI (N 105) k (nI (num T len 4 p 0).2)), fun Q => ?_, by rw [upM_n (by decide)]; exact a2, TD_t a3 ⟨fun o _ h => upM_n h, fun i _ => by rw [upM_n (by decide)]⟩, by rw [upM_s, a4]⟩
  simp only [k78_0, k78_1, k78_2, k78_3, rf_s, pushR_s, pushR_n, le4_0, le4_1, le4_2, le4_3, le4_4, isLong_n, isLong_i, isLong_r, isLong_f, if_true, if_false, not_true_eq_false, not_false_eq_true, isI_0, isI_9, isAr_0, isAr_1, isAr_2, isAr_9, okR_i, okR_0, okR_1, putI_0, putI_b0, putI_b1, nI_10, nI_00, Nat.reduceLT, Nat.reduceLeDiff, nI_add, upM_s, upI_s, pk_mul, nf_at]
  refine (a1 Q).trans ?_
  show wp 78 56 [some (.ref 103), some (.int (nI k)), some (.int (nI (num T len 4 p 0).2)), some (.int (nI (0 + ((num T len 4 p 0).1 - p))))] [] σ N Q = _
  rw [Nat.zero_add]
  by_cases c : dg T len p = 1
  · have en : num T len 4 p 0 = num T len 3 (p + 1) (10 * 0 + T p - 48) := if_pos c
    have ge2 := num_ge (T := T) (len := len) 3 (p + 1) (10 * 0 + T p - 48)
    rw [← en] at ge2
    have z3 : 0 < nI ((num T len 4 p 0).1 - p) := by rw [← nI_0]; exact nI_lt (by omega) (by omega)
    rw [c]
    simp only [k78_56, k78_57, k78_60, k78_61, k78_62, k78_65, k78_66, k78_69, k78_70, k78_73, k78_74, k78_75, k78_76, k78_77, k78_80, k78_81, k78_84, k78_85, id_t103 hd, id_r0 hd, id_r3 hd, id_t104 hd, id_l104 hd, id_t105 hd, id_l105 hd, rf_s, pushR_s, pushR_n, le4_0, le4_1, le4_2, le4_3, le4_4, isLong_n, isLong_i, isLong_r, isLong_f, if_true, if_false, not_true_eq_false, not_false_eq_true, isI_0, isI_9, isAr_0, isAr_1, isAr_2, isAr_9, okR_i, okR_0, okR_1, putI_0, putI_b0, putI_b1, nI_10, nI_00, Nat.reduceLT, Nat.reduceLeDiff, nI_add, upM_s, upI_s, pk_mul, nf_at, z, z2, hk, z3]
  · have en : num T len 4 p 0 = (p, 0) := num_n c _
    rw [en, dg_0 c]
    have z3 : ¬ 0 < nI 0 := by decide
    simp only [k78_56, k78_57, k78_60, k78_61, k78_62, k78_65, k78_66, k78_69, k78_70, k78_73, k78_74, k78_75, k78_76, k78_77, k78_80, k78_81, k78_84, k78_85, id_t103 hd, id_r0 hd, id_r3 hd, id_t104 hd, id_l104 hd, id_t105 hd, id_l105 hd, rf_s, pushR_s, pushR_n, le4_0, le4_1, le4_2, le4_3, le4_4, isLong_n, isLong_i, isLong_r, isLong_f, if_true, if_false, not_true_eq_false, not_false_eq_true, isI_0, isI_9, isAr_0, isAr_1, isAr_2, isAr_9, okR_i, okR_0, okR_1, putI_0, putI_b0, putI_b1, nI_10, nI_00, Nat.reduceLT, Nat.reduceLeDiff, nI_add, upM_s, upI_s, pk_mul, nf_at, z, z2, hk, Nat.sub_self, z3]
end TXC
