/-! the colony -/
def IsO (σ : Sg) : Prop := (sT σ 94 = 10) ∧ (sR σ 94 0 = some 95) ∧ (sR σ 94 1 = some 97) ∧ (sR σ 94 2 = some 98) ∧ (sT σ 97 = 0) ∧ (sL σ 97 = 16) ∧ (sT σ 98 = 0) ∧ (sL σ 98 = 16) ∧ IsW σ 95
theorem io_t94 {σ : Sg} (h : IsO σ) : sT σ 94 = 10 := h.1
theorem io_r0 {σ : Sg} (h : IsO σ) : sR σ 94 0 = some 95 := h.2.1
theorem io_r1 {σ : Sg} (h : IsO σ) : sR σ 94 1 = some 97 := h.2.2.1
theorem io_r2 {σ : Sg} (h : IsO σ) : sR σ 94 2 = some 98 := h.2.2.2.1
theorem io_t97 {σ : Sg} (h : IsO σ) : sT σ 97 = 0 := h.2.2.2.2.1
theorem io_l97 {σ : Sg} (h : IsO σ) : sL σ 97 = 16 := h.2.2.2.2.2.1
theorem io_t98 {σ : Sg} (h : IsO σ) : sT σ 98 = 0 := h.2.2.2.2.2.2.1
theorem io_l98 {σ : Sg} (h : IsO σ) : sL σ 98 = 16 := h.2.2.2.2.2.2.2.1
theorem io_w {σ : Sg} (h : IsO σ) : IsW σ 95 := h.2.2.2.2.2.2.2.2
/-- nothing but a ground and the colony was changed -/
def FC (M M' : Mem) (g : Nat) : Prop := ∀ o, (o < g ∨ g + 12 < o) → (o < 95 ∨ 98 < o) → M' o = M o
theorem FC_r {M : Mem} {g : Nat} : FC M M g := fun _ _ _ => rfl
theorem FC_t {M N P : Mem} {g : Nat} (h : FC M N g) (k : FC N P g) : FC M P g := fun o h1 h2 => (k o h1 h2).trans (h o h1 h2)
theorem FC_g {M N : Mem} {g : Nat} (h : FG M N g) : FC M N g := fun o h1 _ => h o h1
theorem FC_u {M : Mem} {g o : Nat} {f : Nat → Int32} (h1 : 95 ≤ o) (h2 : o ≤ 98) : FC M (upM M o f) g := fun p _ hp => upM_n (by omega)
theorem RG_o {M N : Mem} {g : Nat} {s : Nat → Nat} (r : RG M g s) (h10 : s 10 ≤ 9) (f : ∀ o, g ≤ o → o ≤ g + 12 → N o = M o) : RG N g s := RG_e r h10 (fun _ _ => rfl) f
section COL
variable {σ : Sg} {M : Mem} {g : Nat} {s : Nat → Nat} {W : (Nat × Nat × Nat × Nat × (Nat → Nat))}
theorem c31 (ho : IsO σ) (Q : Po) : wp 31 0 [some (.ref 94), none] [] σ M Q = Q none σ (upM M 97 (cp 16 (fun _ => nI 0) (M 97))) := by
  simp only [k31_0, k31_1, rf_s, pushR_s, pushR_n, le4_0, le4_1, le4_2, le4_3, le4_4, isLong_n, isLong_i, isLong_r, isLong_f, if_true, if_false, not_true_eq_false, not_false_eq_true, isI_0, isI_9, isAr_0, isAr_1, isAr_2, isAr_9, okR_i, okR_0, okR_1, putI_0, putI_b0, putI_b1, nI_10, nI_00, Nat.reduceLT, Nat.reduceLeDiff, nI_add, upM_s, upI_s, pk_mul, nf_at]
  rw [show wp 31 2 [some (.ref 94), some (.int (nI 0))] [] σ M Q = wp 31 2 [some (.ref 94), some (.int (nI 0))] [] σ (upM M 97 (cp 0 (fun _ => nI 0) (M 97))) Q from by rw [cp_0, upM_self rfl]]
  refine (wp_up (n := 16) (fun k => [some (.ref 94), some (.int (nI k))]) (fun k => upM M 97 (cp k (fun _ => nI 0) (M 97))) Q (fun k hk => ?_)).trans ?_
  · have e : nI k < nI 16 := nI_lt hk (by omega)
    have up := cp_up (f := fun _ => nI 0) (g := M 97) (n := k)
    rw [k31_2]
    simp only [k31_3, k31_4, k31_7, k31_8, k31_11, k31_12, k31_15, k31_16, k31_17, k31_18, k31_21, io_t94 ho, io_r0 ho, io_r1 ho, io_r2 ho, io_t97 ho, io_l97 ho, io_t98 ho, io_l98 ho, iw_t0 (io_w ho), iw_t1 (io_w ho), iw_l1 (io_w ho), iw_r0 (io_w ho), rf_s, pushR_s, pushR_n, le4_0, le4_1, le4_2, le4_3, le4_4, isLong_n, isLong_i, isLong_r, isLong_f, if_true, if_false, not_true_eq_false, not_false_eq_true, isI_0, isI_9, isAr_0, isAr_1, isAr_2, isAr_9, okR_i, okR_0, okR_1, putI_0, putI_b0, putI_b1, nI_10, nI_00, Nat.reduceLT, Nat.reduceLeDiff, nI_add, upM_s, upI_s, pk_mul, nf_at, e, hk, upM_up, up]
  · have e : ¬ nI 16 < nI 16 := by decide
    rw [k31_2]
    simp only [k31_3, k31_4, k31_7, k31_8, k31_11, k31_12, k31_15, k31_16, k31_17, k31_18, k31_21, k31_24, io_t94 ho, io_r0 ho, io_r1 ho, io_r2 ho, io_t97 ho, io_l97 ho, io_t98 ho, io_l98 ho, iw_t0 (io_w ho), iw_t1 (io_w ho), iw_l1 (io_w ho), iw_r0 (io_w ho), rf_s, pushR_s, pushR_n, le4_0, le4_1, le4_2, le4_3, le4_4, isLong_n, isLong_i, isLong_r, isLong_f, if_true, if_false, not_true_eq_false, not_false_eq_true, isI_0, isI_9, isAr_0, isAr_1, isAr_2, isAr_9, okR_i, okR_0, okR_1, putI_0, putI_b0, putI_b1, nI_10, nI_00, Nat.reduceLT, Nat.reduceLeDiff, nI_add, upM_s, upI_s, pk_mul, nf_at, e]
theorem c32 (ho : IsO σ) (rv : RW M 95 W) (j4 : W.2.2.1 < 2 ^ 16) {L : Nat → Nat} (hL : ∀ k, k < 16 → M 97 k = nI (L k)) {y : Nat} (Q : Po) : wp 32 0 [some (.ref 94), some (.int (nI y)), none] [] σ M Q = Q none σ (upM M 97 (cp 16 (fun k => nI (L k + if bit W.2.2.1 k = 1 then y else 0)) (M 97))) := by
  generalize hf : (fun k => nI (L k + if bit W.2.2.1 k = 1 then y else 0)) = f
  simp only [k32_0, k32_1, rf_s, pushR_s, pushR_n, le4_0, le4_1, le4_2, le4_3, le4_4, isLong_n, isLong_i, isLong_r, isLong_f, if_true, if_false, not_true_eq_false, not_false_eq_true, isI_0, isI_9, isAr_0, isAr_1, isAr_2, isAr_9, okR_i, okR_0, okR_1, putI_0, putI_b0, putI_b1, nI_10, nI_00, Nat.reduceLT, Nat.reduceLeDiff, nI_add, upM_s, upI_s, pk_mul, nf_at]
  rw [show wp 32 2 [some (.ref 94), some (.int (nI y)), some (.int (nI 0))] [] σ M Q = wp 32 2 [some (.ref 94), some (.int (nI y)), some (.int (nI 0))] [] σ (upM M 97 (cp 0 f (M 97))) Q from by rw [cp_0, upM_self rfl]]
  refine (wp_up (n := 16) (fun k => [some (.ref 94), some (.int (nI y)), some (.int (nI k))]) (fun k => upM M 97 (cp k f (M 97))) Q (fun k hk => ?_)).trans ?_
  · have e : nI k < nI 16 := nI_lt hk (by omega)
    have up := cp_up (f := f) (g := M 97) (n := k)
    have rk := RW_fr rv (N := upM M 97 (cp k f (M 97))) (upM_n (by decide)) (upM_n (by decide))
    have m := fun Q => c90 (Q := Q) (io_w ho) rk j4 hk
    have old : cp k f (M 97) k = nI (L k) := by
      unfold cp
      rw [if_neg (by omega)]
      exact hL k hk
    have fk : f k = nI (L k + if bit W.2.2.1 k = 1 then y else 0) := by rw [← hf]
    rw [fk] at up
    rw [k32_2]
    rcases (show bit W.2.2.1 k = 0 ∨ bit W.2.2.1 k = 1 by have := @bit_lt W.2.2.1 k; omega) with c | c
    · rw [c, if_neg (by omega)] at up
      simp only [k32_3, k32_4, k32_7, k32_8, k32_11, k32_12, k32_15, k32_16, k32_17, k32_18, k32_19, k32_22, k32_23, k32_26, k32_29, k32_30, k32_33, k32_34, k32_35, k32_36, k32_39, io_t94 ho, io_r0 ho, io_r1 ho, io_r2 ho, io_t97 ho, io_l97 ho, io_t98 ho, io_l98 ho, iw_t0 (io_w ho), iw_t1 (io_w ho), iw_l1 (io_w ho), iw_r0 (io_w ho), rf_s, pushR_s, pushR_n, le4_0, le4_1, le4_2, le4_3, le4_4, isLong_n, isLong_i, isLong_r, isLong_f, if_true, if_false, not_true_eq_false, not_false_eq_true, isI_0, isI_9, isAr_0, isAr_1, isAr_2, isAr_9, okR_i, okR_0, okR_1, putI_0, putI_b0, putI_b1, nI_10, nI_00, Nat.reduceLT, Nat.reduceLeDiff, nI_add, upM_s, upI_s, pk_mul, nf_at, e, hk, m, c, old, upM_up, up]
    · rw [c, if_pos rfl] at up
      simp only [k32_3, k32_4, k32_7, k32_8, k32_11, k32_12, k32_15, k32_16, k32_17, k32_18, k32_19, k32_22, k32_23, k32_26, k32_29, k32_30, k32_33, k32_34, k32_35, k32_36, k32_39, io_t94 ho, io_r0 ho, io_r1 ho, io_r2 ho, io_t97 ho, io_l97 ho, io_t98 ho, io_l98 ho, iw_t0 (io_w ho), iw_t1 (io_w ho), iw_l1 (io_w ho), iw_r0 (io_w ho), rf_s, pushR_s, pushR_n, le4_0, le4_1, le4_2, le4_3, le4_4, isLong_n, isLong_i, isLong_r, isLong_f, if_true, if_false, not_true_eq_false, not_false_eq_true, isI_0, isI_9, isAr_0, isAr_1, isAr_2, isAr_9, okR_i, okR_0, okR_1, putI_0, putI_b0, putI_b1, nI_10, nI_00, Nat.reduceLT, Nat.reduceLeDiff, nI_add, upM_s, upI_s, pk_mul, nf_at, e, hk, m, c, old, upM_up, up]
  · have e : ¬ nI 16 < nI 16 := by decide
    rw [k32_2]
    simp only [k32_3, k32_4, k32_7, k32_8, k32_11, k32_12, k32_15, k32_16, k32_17, k32_18, k32_19, k32_22, k32_23, k32_26, k32_29, k32_30, k32_33, k32_34, k32_35, k32_36, k32_39, k32_42, io_t94 ho, io_r0 ho, io_r1 ho, io_r2 ho, io_t97 ho, io_l97 ho, io_t98 ho, io_l98 ho, iw_t0 (io_w ho), iw_t1 (io_w ho), iw_l1 (io_w ho), iw_r0 (io_w ho), rf_s, pushR_s, pushR_n, le4_0, le4_1, le4_2, le4_3, le4_4, isLong_n, isLong_i, isLong_r, isLong_f, if_true, if_false, not_true_eq_false, not_false_eq_true, isI_0, isI_9, isAr_0, isAr_1, isAr_2, isAr_9, okR_i, okR_0, okR_1, putI_0, putI_b0, putI_b1, nI_10, nI_00, Nat.reduceLT, Nat.reduceLeDiff, nI_add, upM_s, upI_s, pk_mul, nf_at, e]
theorem c34 (ho : IsO σ) (hg : IsG σ g) (dg : g + 12 < 94) (R : RG M g s) (i : Inv s) (rv : RW M 95 W) (iw : IW s W) (Q : Po) : wp 34 0 [some (.ref 94), some (.ref g), none, none, none] [] σ M Q = Q (some (.int (nI (sm s (hr W) W.2.2.2.1)))) σ (upM M 98 (cp (s 1) (fun k => nI (aw s (hr W) W.2.2.2.1 k)) (M 98))) := by
  have g1 := i.1.2.1
  have g0 := i.1.1
  have m89 := fun Q => c89 (Q := Q) (io_w ho) rv iw.1
  have hh : hr W < 10 := Nat.lt_of_lt_of_le (iw.2.2.1 _ (Nat.le_refl _)) g0
  have j5 := iw.2.2.2.2.1
  generalize hf : (fun k => nI (aw s (hr W) W.2.2.2.1 k)) = f
  simp only [k34_0, k34_1, k34_4, k34_7, k34_8, k34_9, k34_10, k34_11, io_t94 ho, io_r0 ho, io_r1 ho, io_r2 ho, io_t97 ho, io_l97 ho, io_t98 ho, io_l98 ho, iw_t0 (io_w ho), iw_t1 (io_w ho), iw_l1 (io_w ho), iw_r0 (io_w ho), rf_s, pushR_s, pushR_n, le4_0, le4_1, le4_2, le4_3, le4_4, isLong_n, isLong_i, isLong_r, isLong_f, if_true, if_false, not_true_eq_false, not_false_eq_true, isI_0, isI_9, isAr_0, isAr_1, isAr_2, isAr_9, okR_i, okR_0, okR_1, putI_0, putI_b0, putI_b1, nI_10, nI_00, Nat.reduceLT, Nat.reduceLeDiff, nI_add, upM_s, upI_s, pk_mul, nf_at, m89]
  rw [show wp 34 13 [some (.ref 94), some (.ref g), some (.int (nI (hr W))), some (.int (nI 0)), some (.int (nI 0))] [] σ M Q = wp 34 13 [some (.ref 94), some (.ref g), some (.int (nI (hr W))), some (.int (nI 0)), some (.int (nI 0))] [] σ (upM M 98 (cp 0 f (M 98))) Q from by rw [cp_0, upM_self rfl]]
  refine (wp_up (n := s 1) (fun k => [some (.ref 94), some (.ref g), some (.int (nI (hr W))), some (.int (nI (sumTo (aw s (hr W) W.2.2.2.1) k))), some (.int (nI k))]) (fun k => upM M 98 (cp k f (M 98))) Q (fun k hk => ?_)).trans ?_
  · have e : nI k < nI (s 1) := nI_lt hk (by omega)
    have h16 : k < 16 := by omega
    have e2 : nI k < nI 16 := nI_lt h16 (by omega)
    have rk : RG (upM M 98 (cp k f (M 98))) g s := RG_o R i.2.2.2.2.2 (fun o h1 h2 => upM_n (by omega))
    have vk := RW_fr rv (N := upM M 98 (cp k f (M 98))) (upM_n (by decide)) (upM_n (by decide))
    have m46 := fun Q => c46 (Q := Q) hg rk i hk hh
    have m45 := fun Q => c45 (Q := Q) hg rk i hk
    have al := acr_le (p := hr W) i hk
    have m92 := fun Q => c92 (Q := Q) (io_w ho) vk j5 al
    have ecg : (if acr s k (hr W) = 10 then 0 else 1 - bit W.2.2.2.1 (acr s k (hr W))) = cg s (hr W) W.2.2.2.1 k := rfl
    rw [ecg] at m92
    have hc := @cg_le s (hr W) W.2.2.2.1 k
    have up := cp_up (f := f) (g := M 98) (n := k)
    have fk : f k = nI (aw s (hr W) W.2.2.2.1 k) := by rw [← hf]
    have at_ : cp (k + 1) f (M 98) k = f k := cp_lt (by omega)
    rw [fk] at up at_
    rw [k34_13]
    rcases (show cg s (hr W) W.2.2.2.1 k = 0 ∨ cg s (hr W) W.2.2.2.1 k = 1 by omega) with c | c
    · have ca : aw s (hr W) W.2.2.2.1 k = 0 := by unfold aw; rw [c]; rfl
      rw [ca] at up at_
      simp only [k34_15, k34_16, k34_19, k34_22, k34_24, k34_25, k34_28, k34_29, k34_32, k34_33, k34_36, k34_38, k34_39, k34_42, k34_43, k34_45, k34_46, k34_49, k34_52, k34_55, k34_56, k34_58, k34_61, k34_64, k34_65, k34_66, k34_67, k34_68, k34_71, k34_73, k34_74, k34_75, k34_76, k34_79, io_t94 ho, io_r0 ho, io_r1 ho, io_r2 ho, io_t97 ho, io_l97 ho, io_t98 ho, io_l98 ho, iw_t0 (io_w ho), iw_t1 (io_w ho), iw_l1 (io_w ho), iw_r0 (io_w ho), ig_t0 hg, ig_t1 hg, ig_t2 hg, ig_t3 hg, ig_t4 hg, ig_t5 hg, ig_t6 hg, ig_t7 hg, ig_t8 hg, ig_t9 hg, ig_t10 hg, ig_t11 hg, ig_t12 hg, ig_l1 hg, ig_l2 hg, ig_l3 hg, ig_l4 hg, ig_l5 hg, ig_l6 hg, ig_l7 hg, ig_l8 hg, ig_l9 hg, ig_l10 hg, ig_l12 hg, ig_r1 hg, ig_r2 hg, ig_r4 hg, ig_r5 hg, ig_r6 hg, ig_r7 hg, ig_r8 hg, ig_r9 hg, ig_r12 hg, ig_r14 hg, ig_r15 hg, ig_rw hg, rf_s, pushR_s, pushR_n, le4_0, le4_1, le4_2, le4_3, le4_4, isLong_n, isLong_i, isLong_r, isLong_f, if_true, if_false, not_true_eq_false, not_false_eq_true, isI_0, isI_9, isAr_0, isAr_1, isAr_2, isAr_9, okR_i, okR_0, okR_1, putI_0, putI_b0, putI_b1, nI_10, nI_00, Nat.reduceLT, Nat.reduceLeDiff, nI_add, upM_s, upI_s, pk_mul, nf_at, rg_nc rk, e, e2, h16, m46, m92, c, upM_up, up, at_, sumTo, ca]
    · have ca : aw s (hr W) W.2.2.2.1 k = wt s k := by unfold aw; rw [c]; rfl
      rw [ca] at up at_
      simp only [k34_15, k34_16, k34_19, k34_22, k34_24, k34_25, k34_28, k34_29, k34_32, k34_33, k34_36, k34_38, k34_39, k34_42, k34_43, k34_45, k34_46, k34_49, k34_52, k34_55, k34_56, k34_58, k34_61, k34_64, k34_65, k34_66, k34_67, k34_68, k34_71, k34_73, k34_74, k34_75, k34_76, k34_79, io_t94 ho, io_r0 ho, io_r1 ho, io_r2 ho, io_t97 ho, io_l97 ho, io_t98 ho, io_l98 ho, iw_t0 (io_w ho), iw_t1 (io_w ho), iw_l1 (io_w ho), iw_r0 (io_w ho), ig_t0 hg, ig_t1 hg, ig_t2 hg, ig_t3 hg, ig_t4 hg, ig_t5 hg, ig_t6 hg, ig_t7 hg, ig_t8 hg, ig_t9 hg, ig_t10 hg, ig_t11 hg, ig_t12 hg, ig_l1 hg, ig_l2 hg, ig_l3 hg, ig_l4 hg, ig_l5 hg, ig_l6 hg, ig_l7 hg, ig_l8 hg, ig_l9 hg, ig_l10 hg, ig_l12 hg, ig_r1 hg, ig_r2 hg, ig_r4 hg, ig_r5 hg, ig_r6 hg, ig_r7 hg, ig_r8 hg, ig_r9 hg, ig_r12 hg, ig_r14 hg, ig_r15 hg, ig_rw hg, rf_s, pushR_s, pushR_n, le4_0, le4_1, le4_2, le4_3, le4_4, isLong_n, isLong_i, isLong_r, isLong_f, if_true, if_false, not_true_eq_false, not_false_eq_true, isI_0, isI_9, isAr_0, isAr_1, isAr_2, isAr_9, okR_i, okR_0, okR_1, putI_0, putI_b0, putI_b1, nI_10, nI_00, Nat.reduceLT, Nat.reduceLeDiff, nI_add, upM_s, upI_s, pk_mul, nf_at, rg_nc rk, e, e2, h16, m46, m92, m45, c, upM_up, up, at_, sumTo, ca]
  · have e : ¬ nI (s 1) < nI (s 1) := nI_nlt (Nat.le_refl _) (by omega)
    have rk : RG (upM M 98 (cp (s 1) f (M 98))) g s := RG_o R i.2.2.2.2.2 (fun o h1 h2 => upM_n (by omega))
    rw [k34_13]
    simp only [k34_15, k34_16, k34_19, k34_22, k34_24, k34_25, k34_28, k34_29, k34_32, k34_33, k34_36, k34_38, k34_39, k34_42, k34_43, k34_45, k34_46, k34_49, k34_52, k34_55, k34_56, k34_58, k34_61, k34_64, k34_65, k34_66, k34_67, k34_68, k34_71, k34_73, k34_74, k34_75, k34_76, k34_79, k34_82, k34_83, io_t94 ho, io_r0 ho, io_r1 ho, io_r2 ho, io_t97 ho, io_l97 ho, io_t98 ho, io_l98 ho, iw_t0 (io_w ho), iw_t1 (io_w ho), iw_l1 (io_w ho), iw_r0 (io_w ho), ig_t0 hg, ig_t1 hg, ig_t2 hg, ig_t3 hg, ig_t4 hg, ig_t5 hg, ig_t6 hg, ig_t7 hg, ig_t8 hg, ig_t9 hg, ig_t10 hg, ig_t11 hg, ig_t12 hg, ig_l1 hg, ig_l2 hg, ig_l3 hg, ig_l4 hg, ig_l5 hg, ig_l6 hg, ig_l7 hg, ig_l8 hg, ig_l9 hg, ig_l10 hg, ig_l12 hg, ig_r1 hg, ig_r2 hg, ig_r4 hg, ig_r5 hg, ig_r6 hg, ig_r7 hg, ig_r8 hg, ig_r9 hg, ig_r12 hg, ig_r14 hg, ig_r15 hg, ig_rw hg, rf_s, pushR_s, pushR_n, le4_0, le4_1, le4_2, le4_3, le4_4, isLong_n, isLong_i, isLong_r, isLong_f, if_true, if_false, not_true_eq_false, not_false_eq_true, isI_0, isI_9, isAr_0, isAr_1, isAr_2, isAr_9, okR_i, okR_0, okR_1, putI_0, putI_b0, putI_b1, nI_10, nI_00, Nat.reduceLT, Nat.reduceLeDiff, nI_add, upM_s, upI_s, pk_mul, nf_at, rg_nc rk, e, sm]
theorem c35 (ho : IsO σ) (hg : IsG σ g) (R : RG M g s) (g1 : s 1 ≤ 16) {f : Nat → Nat} (hf : ∀ k, k < s 1 → M 98 k = nI (f k)) {d : Nat} (hd : d < sumTo f (s 1)) (hs : sumTo f (s 1) < 2 ^ 30) (Q : Po) : wp 35 0 [some (.ref 94), some (.ref g), some (.int (nI d)), none, none] [] σ M Q = Q (some (.int (nI (pick f d (s 1))))) σ M := by
  obtain ⟨p1, p2, p3⟩ := pick_spec hd
  generalize pick f d (s 1) = p at *
  simp only [k35_0, k35_1, k35_2, k35_3, rf_s, pushR_s, pushR_n, le4_0, le4_1, le4_2, le4_3, le4_4, isLong_n, isLong_i, isLong_r, isLong_f, if_true, if_false, not_true_eq_false, not_false_eq_true, isI_0, isI_9, isAr_0, isAr_1, isAr_2, isAr_9, okR_i, okR_0, okR_1, putI_0, putI_b0, putI_b1, nI_10, nI_00, Nat.reduceLT, Nat.reduceLeDiff, nI_add, upM_s, upI_s, pk_mul, nf_at]
  refine (wp_up (n := p) (fun k => [some (.ref 94), some (.ref g), some (.int (nI d)), some (.int (nI (d - sumTo f k))), some (.int (nI k))]) (fun _ => M) Q (fun k hk => ?_)).trans ?_
  · have e : nI k < nI (s 1) := nI_lt (by omega) (by omega)
    have h16 : k < 16 := by omega
    have e2 : nI k < nI 16 := nI_lt h16 (by omega)
    have mo := sumTo_mono (f := f) (a := k + 1) (b := p) (by omega)
    have mo3 : sumTo f (k + 1) = sumTo f k + f k := rfl
    have d1 := pk_sub (a := d - sumTo f k) (b := f k) (by omega)
    rw [show d - sumTo f k - f k = d - sumTo f (k + 1) by omega] at d1
    have z : ¬ nI (d - sumTo f (k + 1)) < 0 := nI_pos (by omega)
    have hk' := hf k (by omega)
    rw [k35_5]
    simp only [k35_7, k35_8, k35_11, k35_14, k35_16, k35_17, k35_20, k35_21, k35_24, k35_25, k35_26, k35_29, k35_31, k35_32, k35_33, k35_34, k35_35, k35_38, k35_40, k35_41, k35_44, io_t94 ho, io_r0 ho, io_r1 ho, io_r2 ho, io_t97 ho, io_l97 ho, io_t98 ho, io_l98 ho, iw_t0 (io_w ho), iw_t1 (io_w ho), iw_l1 (io_w ho), iw_r0 (io_w ho), ig_t0 hg, ig_t1 hg, ig_t2 hg, ig_t3 hg, ig_t4 hg, ig_t5 hg, ig_t6 hg, ig_t7 hg, ig_t8 hg, ig_t9 hg, ig_t10 hg, ig_t11 hg, ig_t12 hg, ig_l1 hg, ig_l2 hg, ig_l3 hg, ig_l4 hg, ig_l5 hg, ig_l6 hg, ig_l7 hg, ig_l8 hg, ig_l9 hg, ig_l10 hg, ig_l12 hg, ig_r1 hg, ig_r2 hg, ig_r4 hg, ig_r5 hg, ig_r6 hg, ig_r7 hg, ig_r8 hg, ig_r9 hg, ig_r12 hg, ig_r14 hg, ig_r15 hg, ig_rw hg, rf_s, pushR_s, pushR_n, le4_0, le4_1, le4_2, le4_3, le4_4, isLong_n, isLong_i, isLong_r, isLong_f, if_true, if_false, not_true_eq_false, not_false_eq_true, isI_0, isI_9, isAr_0, isAr_1, isAr_2, isAr_9, okR_i, okR_0, okR_1, putI_0, putI_b0, putI_b1, nI_10, nI_00, Nat.reduceLT, Nat.reduceLeDiff, nI_add, upM_s, upI_s, pk_mul, nf_at, rg_nc R, e, e2, h16, hk', d1, z]
  · have e : nI p < nI (s 1) := nI_lt p1 (by omega)
    have h16 : p < 16 := by omega
    have e2 : nI p < nI 16 := nI_lt h16 (by omega)
    have mo3 : sumTo f (p + 1) = sumTo f p + f p := rfl
    have mo := sumTo_mono (f := f) (a := p + 1) (b := s 1) (by omega)
    have z : nI (d - sumTo f p) - nI (f p) < 0 := pk_sneg (by omega) (by omega)
    have hk' := hf p p1
    rw [k35_5]
    simp only [k35_7, k35_8, k35_11, k35_14, k35_16, k35_17, k35_20, k35_21, k35_24, k35_25, k35_26, k35_29, k35_31, k35_32, k35_33, k35_34, k35_35, k35_38, k35_40, k35_41, k35_44, io_t94 ho, io_r0 ho, io_r1 ho, io_r2 ho, io_t97 ho, io_l97 ho, io_t98 ho, io_l98 ho, iw_t0 (io_w ho), iw_t1 (io_w ho), iw_l1 (io_w ho), iw_r0 (io_w ho), ig_t0 hg, ig_t1 hg, ig_t2 hg, ig_t3 hg, ig_t4 hg, ig_t5 hg, ig_t6 hg, ig_t7 hg, ig_t8 hg, ig_t9 hg, ig_t10 hg, ig_t11 hg, ig_t12 hg, ig_l1 hg, ig_l2 hg, ig_l3 hg, ig_l4 hg, ig_l5 hg, ig_l6 hg, ig_l7 hg, ig_l8 hg, ig_l9 hg, ig_l10 hg, ig_l12 hg, ig_r1 hg, ig_r2 hg, ig_r4 hg, ig_r5 hg, ig_r6 hg, ig_r7 hg, ig_r8 hg, ig_r9 hg, ig_r12 hg, ig_r14 hg, ig_r15 hg, ig_rw hg, rf_s, pushR_s, pushR_n, le4_0, le4_1, le4_2, le4_3, le4_4, isLong_n, isLong_i, isLong_r, isLong_f, if_true, if_false, not_true_eq_false, not_false_eq_true, isI_0, isI_9, isAr_0, isAr_1, isAr_2, isAr_9, okR_i, okR_0, okR_1, putI_0, putI_b0, putI_b1, nI_10, nI_00, Nat.reduceLT, Nat.reduceLeDiff, nI_add, upM_s, upI_s, pk_mul, nf_at, rg_nc R, e, e2, h16, hk', z]
theorem Inv_x (i : Inv s) {x : Nat} (hx : x < 2147483647) : Inv (upN s 8 x) := by
  have n : ∀ j, j ≠ 8 → upN s 8 x j = s j := fun j h => upN_n h
  refine Inv_kp i ⟨eqg_8, n 2 (by omega), n 7 (by omega), fun j h1 h2 => n j (by omega)⟩ (by rw [upN_s]; exact hx) ?_
  have h := i.2.2.2.2
  unfold bOk at h ⊢
  rw [n 9 (by omega), n 10 (by omega), n 12 (by omega), n 20 (by omega), n 7 (by omega), n 0 (by omega)]
  refine ⟨fun h9 => ?_, h.2⟩
  obtain ⟨q1, q2, q3, q4, q5, q6, q7⟩ := h.1 h9
  exact ⟨q1, q2, q3, q4, q5, q6, fun i hi => by rw [n (20 + i) (by omega)]; exact q7 i hi⟩
theorem upN_upN {f : Nat → Nat} {j x y : Nat} : upN (upN f j x) j y = upN f j y := by
  funext i
  unfold upN
  split <;> rfl
end COL
