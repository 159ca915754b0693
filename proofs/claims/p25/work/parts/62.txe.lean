section TXE
variable {σ : Sg} {len : Nat} {T : Nat → Nat}
theorem c73 (hk : IsK σ) {M : Mem} {s t : Nat → Nat} (hC : IsC σ M) (R : RG M 14 s) (i : Inv s) (x : Ex s) (h95 : ∃ V, RW M 95 V) {c : Nat} (h2 : M 103 2 = nI c) {N : Nat → Nat} (hN : ∀ i, i < many c → M 105 i = nI (N i)) {r : Int32} (o : oOne s c N r t) : ∃ M', (∀ Q, wp 73 0 [some (.ref 103), some (.ref 14), some (.ref 94)] [] σ M Q = Q (some (.int r)) σ M') ∧ RG M' 14 t ∧ (∃ V, RW M' 95 V) ∧ FC M M' 14 := by
  have hg := hk.2.2.1
  have hd := hk.2.2.2.2.2
  have rw14 : ∀ {P : Mem}, FG M P 14 → ∃ V, RW P 95 V := fun f => by
    obtain ⟨V, v⟩ := h95
    exact ⟨V, RW_fr v (f 95 (by omega)) (f (95 + 1) (by omega))⟩
  rcases o with ⟨e, o⟩ | ⟨e, o⟩ | ⟨e, o⟩ | ⟨e, o⟩ | ⟨e, o⟩ | ⟨e, o⟩
  · subst e
    have h0 := hN 0 (by decide)
    have h1 := hN 1 (by decide)
    have h3 := hN 2 (by decide)
    obtain ⟨P, b1, b2, b3⟩ := c53 hg R i x o
    refine ⟨P, fun Q => ?_, b2, rw14 b3, FC_g b3⟩
    simp only [k73_0, k73_1, k73_4, k73_56, k73_57, k73_58, k73_61, k73_62, k73_63, k73_64, k73_67, k73_68, k73_69, k73_70, k73_73, k73_74, k73_75, k73_78, k73_79, k73_80, k73_81, k73_84, k73_85, k73_86, k73_87, k73_90, k73_91, k73_92, k73_93, k73_96, k73_97, k73_98, k73_99, k73_102, k73_103, k73_104, k73_105, k73_108, k73_109, k73_110, k73_113, k73_114, k73_115, k73_116, k73_119, k73_120, k73_121, k73_122, k73_125, k73_126, k73_127, k73_130, k73_131, k73_132, k73_133, k73_134, k73_137, k73_138, k73_139, k73_142, id_t103 hd, id_r0 hd, id_r3 hd, id_t104 hd, id_l104 hd, id_t105 hd, id_l105 hd, ig_t0 hg, rf_s, pushR_s, pushR_n, le4_0, le4_1, le4_2, le4_3, le4_4, isLong_n, isLong_i, isLong_r, isLong_f, if_true, if_false, not_true_eq_false, not_false_eq_true, isI_0, isI_9, isAr_0, isAr_1, isAr_2, isAr_9, okR_i, okR_0, okR_1, putI_0, putI_b0, putI_b1, nI_10, nI_00, Nat.reduceLT, Nat.reduceLeDiff, nI_add, upM_s, upI_s, pk_mul, nf_at, h2, nI_lit, Nat.reduceEqDiff, h0, h1, h3, b1]
  · subst e
    have h0 := hN 0 (by decide)
    obtain ⟨P, b1, b2, b3⟩ := c54 hg R i (by omega) o
    refine ⟨P, fun Q => ?_, b2, rw14 b3, FC_g b3⟩
    simp only [k73_0, k73_1, k73_4, k73_56, k73_57, k73_58, k73_61, k73_62, k73_63, k73_64, k73_67, k73_68, k73_69, k73_70, k73_73, k73_74, k73_75, k73_78, k73_79, k73_80, k73_81, k73_84, k73_85, k73_86, k73_87, k73_90, k73_91, k73_92, k73_93, k73_96, k73_97, k73_98, k73_99, k73_102, k73_103, k73_104, k73_105, k73_108, k73_109, k73_110, k73_113, k73_114, k73_115, k73_116, k73_119, k73_120, k73_121, k73_122, k73_125, k73_126, k73_127, k73_130, k73_131, k73_132, k73_133, k73_134, k73_137, k73_138, k73_139, k73_142, id_t103 hd, id_r0 hd, id_r3 hd, id_t104 hd, id_l104 hd, id_t105 hd, id_l105 hd, ig_t0 hg, rf_s, pushR_s, pushR_n, le4_0, le4_1, le4_2, le4_3, le4_4, isLong_n, isLong_i, isLong_r, isLong_f, if_true, if_false, not_true_eq_false, not_false_eq_true, isI_0, isI_9, isAr_0, isAr_1, isAr_2, isAr_9, okR_i, okR_0, okR_1, putI_0, putI_b0, putI_b1, nI_10, nI_00, Nat.reduceLT, Nat.reduceLeDiff, nI_add, upM_s, upI_s, pk_mul, nf_at, h2, nI_lit, Nat.reduceEqDiff, h0, b1]
  · subst e
    have h0 := hN 0 (by decide)
    obtain ⟨P, b1, b2, b3⟩ := c54 hg R i (by omega) o
    refine ⟨P, fun Q => ?_, b2, rw14 b3, FC_g b3⟩
    simp only [k73_0, k73_1, k73_4, k73_56, k73_57, k73_58, k73_61, k73_62, k73_63, k73_64, k73_67, k73_68, k73_69, k73_70, k73_73, k73_74, k73_75, k73_78, k73_79, k73_80, k73_81, k73_84, k73_85, k73_86, k73_87, k73_90, k73_91, k73_92, k73_93, k73_96, k73_97, k73_98, k73_99, k73_102, k73_103, k73_104, k73_105, k73_108, k73_109, k73_110, k73_113, k73_114, k73_115, k73_116, k73_119, k73_120, k73_121, k73_122, k73_125, k73_126, k73_127, k73_130, k73_131, k73_132, k73_133, k73_134, k73_137, k73_138, k73_139, k73_142, id_t103 hd, id_r0 hd, id_r3 hd, id_t104 hd, id_l104 hd, id_t105 hd, id_l105 hd, ig_t0 hg, rf_s, pushR_s, pushR_n, le4_0, le4_1, le4_2, le4_3, le4_4, isLong_n, isLong_i, isLong_r, isLong_f, if_true, if_false, not_true_eq_false, not_false_eq_true, isI_0, isI_9, isAr_0, isAr_1, isAr_2, isAr_9, okR_i, okR_0, okR_1, putI_0, putI_b0, putI_b1, nI_10, nI_00, Nat.reduceLT, Nat.reduceLeDiff, nI_add, upM_s, upI_s, pk_mul, nf_at, h2, nI_lit, Nat.reduceEqDiff, h0, b1]
  · subst e
    have h0 := hN 0 (by decide)
    obtain ⟨P, b1, b2, b3⟩ := c55 hg R i o
    refine ⟨P, fun Q => ?_, b2, rw14 b3, FC_g b3⟩
    simp only [k73_0, k73_1, k73_4, k73_56, k73_57, k73_58, k73_61, k73_62, k73_63, k73_64, k73_67, k73_68, k73_69, k73_70, k73_73, k73_74, k73_75, k73_78, k73_79, k73_80, k73_81, k73_84, k73_85, k73_86, k73_87, k73_90, k73_91, k73_92, k73_93, k73_96, k73_97, k73_98, k73_99, k73_102, k73_103, k73_104, k73_105, k73_108, k73_109, k73_110, k73_113, k73_114, k73_115, k73_116, k73_119, k73_120, k73_121, k73_122, k73_125, k73_126, k73_127, k73_130, k73_131, k73_132, k73_133, k73_134, k73_137, k73_138, k73_139, k73_142, id_t103 hd, id_r0 hd, id_r3 hd, id_t104 hd, id_l104 hd, id_t105 hd, id_l105 hd, ig_t0 hg, rf_s, pushR_s, pushR_n, le4_0, le4_1, le4_2, le4_3, le4_4, isLong_n, isLong_i, isLong_r, isLong_f, if_true, if_false, not_true_eq_false, not_false_eq_true, isI_0, isI_9, isAr_0, isAr_1, isAr_2, isAr_9, okR_i, okR_0, okR_1, putI_0, putI_b0, putI_b1, nI_10, nI_00, Nat.reduceLT, Nat.reduceLeDiff, nI_add, upM_s, upI_s, pk_mul, nf_at, h2, nI_lit, Nat.reduceEqDiff, h0, b1]
  · subst e
    have h0 := hN 0 (by decide)
    have h1 := hN 1 (by decide)
    obtain ⟨P, b1, b2, b3⟩ := c57 hg hC R i o
    refine ⟨P, fun Q => ?_, b2, rw14 b3, FC_g b3⟩
    simp only [k73_0, k73_1, k73_4, k73_56, k73_57, k73_58, k73_61, k73_62, k73_63, k73_64, k73_67, k73_68, k73_69, k73_70, k73_73, k73_74, k73_75, k73_78, k73_79, k73_80, k73_81, k73_84, k73_85, k73_86, k73_87, k73_90, k73_91, k73_92, k73_93, k73_96, k73_97, k73_98, k73_99, k73_102, k73_103, k73_104, k73_105, k73_108, k73_109, k73_110, k73_113, k73_114, k73_115, k73_116, k73_119, k73_120, k73_121, k73_122, k73_125, k73_126, k73_127, k73_130, k73_131, k73_132, k73_133, k73_134, k73_137, k73_138, k73_139, k73_142, id_t103 hd, id_r0 hd, id_r3 hd, id_t104 hd, id_l104 hd, id_t105 hd, id_l105 hd, ig_t0 hg, rf_s, pushR_s, pushR_n, le4_0, le4_1, le4_2, le4_3, le4_4, isLong_n, isLong_i, isLong_r, isLong_f, if_true, if_false, not_true_eq_false, not_false_eq_true, isI_0, isI_9, isAr_0, isAr_1, isAr_2, isAr_9, okR_i, okR_0, okR_1, putI_0, putI_b0, putI_b1, nI_10, nI_00, Nat.reduceLT, Nat.reduceLeDiff, nI_add, upM_s, upI_s, pk_mul, nf_at, h2, nI_lit, Nat.reduceEqDiff, h0, h1, b1]
  · subst e
    have h0 := hN 0 (by decide)
    obtain ⟨V, v⟩ := h95
    obtain ⟨P, b1, b2, b3, b4⟩ := c30 hk.2.2.2.1 hg (by omega) i v R o
    refine ⟨P, fun Q => ?_, b2, b3, b4⟩
    simp only [k73_0, k73_1, k73_4, k73_56, k73_57, k73_58, k73_61, k73_62, k73_63, k73_64, k73_67, k73_68, k73_69, k73_70, k73_73, k73_74, k73_75, k73_78, k73_79, k73_80, k73_81, k73_84, k73_85, k73_86, k73_87, k73_90, k73_91, k73_92, k73_93, k73_96, k73_97, k73_98, k73_99, k73_102, k73_103, k73_104, k73_105, k73_108, k73_109, k73_110, k73_113, k73_114, k73_115, k73_116, k73_119, k73_120, k73_121, k73_122, k73_125, k73_126, k73_127, k73_130, k73_131, k73_132, k73_133, k73_134, k73_137, k73_138, k73_139, k73_142, id_t103 hd, id_r0 hd, id_r3 hd, id_t104 hd, id_l104 hd, id_t105 hd, id_l105 hd, io_t94 hk.2.2.2.1, rf_s, pushR_s, pushR_n, le4_0, le4_1, le4_2, le4_3, le4_4, isLong_n, isLong_i, isLong_r, isLong_f, if_true, if_false, not_true_eq_false, not_false_eq_true, isI_0, isI_9, isAr_0, isAr_1, isAr_2, isAr_9, okR_i, okR_0, okR_1, putI_0, putI_b0, putI_b1, nI_10, nI_00, Nat.reduceLT, Nat.reduceLeDiff, nI_add, upM_s, upI_s, pk_mul, nf_at, h2, nI_lit, Nat.reduceEqDiff, h0, b1]
theorem c72 (hd : IsD σ) {M : Mem} {x y z : Int32} (Q : Po) : wp 72 0 [some (.ref 103), some (.int x), some (.int y), some (.int z)] [] σ M Q = Q none σ (upM M 103 (upI (upI (upI (M 103) 6 x) 5 y) 7 z)) := by
  simp only [k72_0, k72_1, k72_2, k72_5, k72_6, k72_7, k72_10, k72_11, k72_12, k72_15, id_t103 hd, id_r0 hd, id_r3 hd, id_t104 hd, id_l104 hd, id_t105 hd, id_l105 hd, rf_s, pushR_s, pushR_n, le4_0, le4_1, le4_2, le4_3, le4_4, isLong_n, isLong_i, isLong_r, isLong_f, if_true, if_false, not_true_eq_false, not_false_eq_true, isI_0, isI_9, isAr_0, isAr_1, isAr_2, isAr_9, okR_i, okR_0, okR_1, putI_0, putI_b0, putI_b1, nI_10, nI_00, Nat.reduceLT, Nat.reduceLeDiff, nI_add, upM_s, upI_s, pk_mul, nf_at, upM_up]
/-- what all orders leave -/
def CO (M M' : Mem) : Prop := (∀ o, (o < 14 ∨ 26 < o) → (o < 95 ∨ 98 < o) → o ≠ 103 → o ≠ 105 → M' o = M o) ∧ M' 103 1 = M 103 1
theorem CO_t {M N P : Mem} (h : CO M N) (k : CO N P) : CO M P := ⟨fun o a b c d => (k.1 o a b c d).trans (h.1 o a b c d), k.2.trans h.2⟩
theorem CO_c {M N : Mem} (h : FC M N 14) : CO M N := ⟨fun o a b _ _ => h o (by omega) b, congrFun (h 103 (by omega) (by omega)) 1⟩
theorem Ty_o {M N : Mem} (h : Ty M len T) (k : CO M N) : Ty N len T := ⟨by rw [k.2]; exact h.1, fun j hj => by rw [k.1 104 (by omega) (by omega) (by decide) (by decide)]; exact h.2.1 j hj, h.2.2⟩
theorem c71L (hk : IsK σ) : ∀ (f : Nat) (s : Nat → Nat) (p d : Nat) (u : Nat × Nat × Int32 × Nat) (t : Nat → Nat) (M : Mem) (l5 : Option Value), Run T len f s p d u t → Inv s → Ex s → RG M 14 s → (∃ V, RW M 95 V) → IsC σ M → Ty M len T → M 103 5 = nI 0 → p ≤ len → d ≤ p → ∃ M', (∀ Q, wp 71 10 [some (.ref 103), some (.ref 14), some (.ref 94), some (.int (nI p)), some (.int (nI d)), l5] [] σ M Q = Q (some (.int (nI u.2.2.2))) σ M') ∧ RG M' 14 t ∧ (∃ V, RW M' 95 V) ∧ (u.1 = 0 → M' 103 5 = nI 0) ∧ (u.1 ≠ 0 → M' 103 5 = nI u.1 ∧ M' 103 6 = nI u.2.1 ∧ M' 103 7 = u.2.2.1) ∧ CO M M'
  | 0, s, p, d, u, t, M, l5, h, _, _, _, _, _, _, _, _, _ => h.elim
  | f + 1, s, p, d, u, t, M, l5, h, i, x, R, h95, hC, ty, h5, hl, hdp => by
    have hd := hk.2.2.2.2.2
    have l60 := ty.2.2.1
    by_cases c : p < len
    · have e : nI p < nI len := nI_lt c (by omega)
      have e2 : nI d < nI 60 := nI_lt (by omega) (by omega)
      obtain ⟨A, a1, a2, a3, a4, a5, a6⟩ := c74 hd (p := p) ty c
      have ok := pf_ok (T := T) (len := len) (p := p) (N := N0) c
      have A5 : A 103 5 = nI 0 := by rw [a6 5 (by decide) (by decide)]; exact h5
      have coA : CO M A := ⟨fun o _ _ h h2 => a5 o h h2, a6 1 (by decide) (by decide)⟩
      have RA : RG A 14 s := RG_o R i.2.2.2.2.2 (fun o h1 h2 => a5 o (by omega) (by omega))
      have h95A : ∃ V, RW A 95 V := by
        obtain ⟨V, v⟩ := h95
        exact ⟨V, RW_fr v (a5 95 (by decide) (by decide)) (a5 (95 + 1) (by decide) (by decide))⟩
      have hCA : IsC σ A := IsC_fr hC (a5 1001 (by decide) (by decide)) (a5 1002 (by decide) (by decide))
      rcases h with ⟨h1, h2, h3⟩ | ⟨h1, h2, h3, h4⟩ | ⟨h1, h2, r, s1, o, h⟩
      · omega
      · subst h3 h4
        rw [h2] at a1
        have sb := pk_sub (a := (pf T len p N0).2.1) (b := p) ok.2.1
        have m72 := fun x y z Q => c72 (M := A) (x := x) (y := y) (z := z) (Q := Q) hd
        refine ⟨upM A 103 (upI (upI (upI (A 103) 6 (nI p)) 5 (nI 1)) 7 (nI ((pf T len p N0).2.1 - p))), fun Q => ?_, RG_o RA i.2.2.2.2.2 (fun o h1 h2 => upM_n (by omega)), ?_, fun h => absurd h (show ¬ 1 = 0 by decide), fun _ => ⟨rfl, rfl, rfl⟩, CO_t coA ⟨fun o _ _ h _ => upM_n h, rfl⟩⟩
        · rw [k71_10]
          simp only [k71_11, k71_12, k71_15, k71_18, k71_20, k71_22, k71_25, k71_26, k71_27, k71_30, k71_33, k71_34, k71_35, k71_36, k71_37, k71_40, k71_41, k71_42, k71_45, k71_47, id_t103 hd, id_r0 hd, id_r3 hd, id_t104 hd, id_l104 hd, id_t105 hd, id_l105 hd, rf_s, pushR_s, pushR_n, le4_0, le4_1, le4_2, le4_3, le4_4, isLong_n, isLong_i, isLong_r, isLong_f, if_true, if_false, not_true_eq_false, not_false_eq_true, isI_0, isI_9, isAr_0, isAr_1, isAr_2, isAr_9, okR_i, okR_0, okR_1, putI_0, putI_b0, putI_b1, nI_10, nI_00, Nat.reduceLT, Nat.reduceLeDiff, nI_add, upM_s, upI_s, pk_mul, nf_at, ty.1, e, e2, a1, a2, sb, m72]
        · obtain ⟨V, v⟩ := h95A
          exact ⟨V, RW_fr v (upM_n (by decide)) (upM_n (by decide))⟩
      · have b2 := a4 h2
        rw [h2] at a1
        obtain ⟨B, b3, b4, b5, b6⟩ := c73 hk hCA RA i x h95A a3 b2 o
        have B4 : B 103 4 = nI (pf T len p N0).2.1 := by rw [b6 103 (by omega) (by omega)]; exact a2
        have coB : CO M B := CO_t coA (CO_c b6)
        rcases h with ⟨h3, h4, h5'⟩ | ⟨h3, h4⟩
        · subst h4 h5'
          have m25 := fun (N : Mem) Q => c25e (σ := σ) (M := N) h3 Q
          have m72 := fun x y z Q => c72 (M := B) (x := x) (y := y) (z := z) (Q := Q) hd
          have iB := (oOne_inv i o).1
          refine ⟨upM B 103 (upI (upI (upI (B 103) 6 (nI p)) 5 (nI 2)) 7 r), fun Q => ?_, RG_o b4 iB.2.2.2.2.2 (fun o h1 h2 => upM_n (by omega)), ?_, fun h => absurd h (show ¬ 2 = 0 by decide), fun _ => ⟨rfl, rfl, rfl⟩, CO_t coB ⟨fun o _ _ h _ => upM_n h, rfl⟩⟩
          · rw [k71_10]
            simp only [k71_11, k71_12, k71_15, k71_18, k71_20, k71_22, k71_25, k71_26, k71_27, k71_30, k71_33, k71_34, k71_35, k71_36, k71_37, k71_40, k71_41, k71_42, k71_45, k71_47, k71_48, k71_49, k71_50, k71_51, k71_54, k71_56, k71_58, k71_61, k71_64, k71_65, k71_66, k71_67, k71_69, k71_72, k71_74, id_t103 hd, id_r0 hd, id_r3 hd, id_t104 hd, id_l104 hd, id_t105 hd, id_l105 hd, rf_s, pushR_s, pushR_n, le4_0, le4_1, le4_2, le4_3, le4_4, isLong_n, isLong_i, isLong_r, isLong_f, if_true, if_false, not_true_eq_false, not_false_eq_true, isI_0, isI_9, isAr_0, isAr_1, isAr_2, isAr_9, okR_i, okR_0, okR_1, putI_0, putI_b0, putI_b1, nI_10, nI_00, Nat.reduceLT, Nat.reduceLeDiff, nI_add, upM_s, upI_s, pk_mul, nf_at, ty.1, e, e2, a1, b3, m25, m72]
          · obtain ⟨V, v⟩ := b5
            exact ⟨V, RW_fr v (upM_n (by decide)) (upM_n (by decide))⟩
        · have m25 := fun (N : Mem) Q => c25n (σ := σ) (M := N) h3 Q
          have B5 : B 103 5 = nI 0 := by rw [b6 103 (by omega) (by omega)]; exact A5
          have ok2 := (ok.2.2.2 h2).1
          obtain ⟨M', d1, d2, d3, d4, d5, d6⟩ := c71L hk f s1 (pf T len p N0).2.1 (d + 1) u t B (some (.int r)) h4 (oOne_inv i o).1 (oOne_x i x o) b4 b5 (IsC_fr hCA (b6 1001 (by omega) (by omega)) (b6 1002 (by omega) (by omega))) (Ty_o ty coB) B5 ok.2.2.1 (by omega)
          refine ⟨M', fun Q => ?_, d2, d3, d4, d5, CO_t coB d6⟩
          refine Eq.trans ?_ (d1 Q)
          rw [k71_10]
          simp only [k71_11, k71_12, k71_15, k71_18, k71_20, k71_22, k71_25, k71_26, k71_27, k71_30, k71_33, k71_34, k71_35, k71_36, k71_37, k71_40, k71_41, k71_42, k71_45, k71_47, k71_48, k71_49, k71_50, k71_51, k71_54, k71_56, k71_58, k71_61, k71_64, k71_65, k71_66, k71_67, k71_69, k71_72, k71_74, k71_75, k71_78, k71_79, k71_82, k71_83, id_t103 hd, id_r0 hd, id_r3 hd, id_t104 hd, id_l104 hd, id_t105 hd, id_l105 hd, rf_s, pushR_s, pushR_n, le4_0, le4_1, le4_2, le4_3, le4_4, isLong_n, isLong_i, isLong_r, isLong_f, if_true, if_false, not_true_eq_false, not_false_eq_true, isI_0, isI_9, isAr_0, isAr_1, isAr_2, isAr_9, okR_i, okR_0, okR_1, putI_0, putI_b0, putI_b1, nI_10, nI_00, Nat.reduceLT, Nat.reduceLeDiff, nI_add, upM_s, upI_s, pk_mul, nf_at, ty.1, e, e2, a1, b3, m25, B4]
    · have e : ¬ nI p < nI len := nI_nlt (by omega) (by omega)
      rcases h with ⟨h1, h2, h3⟩ | ⟨h1, _⟩ | ⟨h1, _⟩
      · subst h2 h3
        refine ⟨M, fun Q => ?_, R, h95, fun _ => h5, fun h => absurd rfl h, ⟨fun _ _ _ _ _ => rfl, rfl⟩⟩
        rw [k71_10]
        simp only [k71_11, k71_12, k71_15, k71_86, k71_88, id_t103 hd, id_r0 hd, id_r3 hd, id_t104 hd, id_l104 hd, id_t105 hd, id_l105 hd, rf_s, pushR_s, pushR_n, le4_0, le4_1, le4_2, le4_3, le4_4, isLong_n, isLong_i, isLong_r, isLong_f, if_true, if_false, not_true_eq_false, not_false_eq_true, isI_0, isI_9, isAr_0, isAr_1, isAr_2, isAr_9, okR_i, okR_0, okR_1, putI_0, putI_b0, putI_b1, nI_10, nI_00, Nat.reduceLT, Nat.reduceLeDiff, nI_add, upM_s, upI_s, pk_mul, nf_at, ty.1, e]
      · exact absurd h1 c
      · exact absurd h1 c
theorem c71 (hk : IsK σ) {M : Mem} {s t : Nat → Nat} {u : Nat × Nat × Int32 × Nat} (h : Run T len 61 s 0 0 u t) (i : Inv s) (x : Ex s) (R : RG M 14 s) (h95 : ∃ V, RW M 95 V) (hC : IsC σ M) (ty : Ty M len T) : ∃ M', (∀ Q, wp 71 0 [some (.ref 103), some (.ref 14), some (.ref 94), none, none, none] [] σ M Q = Q (some (.int (nI u.2.2.2))) σ M') ∧ RG M' 14 t ∧ (∃ V, RW M' 95 V) ∧ (u.1 = 0 → M' 103 5 = nI 0) ∧ (u.1 ≠ 0 → M' 103 5 = nI u.1 ∧ M' 103 6 = nI u.2.1 ∧ M' 103 7 = u.2.2.1) ∧ CO M M' := by
  have hd := hk.2.2.2.2.2
  have co : CO M (upM M 103 (upI (M 103) 5 (nI 0))) := ⟨fun o _ _ h _ => upM_n h, rfl⟩
  obtain ⟨V, v⟩ := h95
  obtain ⟨M', d1, d2, d3, d4, d5, d6⟩ := c71L hk 61 s 0 0 u t (upM M 103 (upI (M 103) 5 (nI 0))) none h i x (RG_o R i.2.2.2.2.2 (fun o h1 h2 => upM_n (by omega))) ⟨V, RW_fr v (upM_n (by decide)) (upM_n (by decide))⟩ (IsC_fr hC (upM_n (by decide)) (upM_n (by decide))) (Ty_o ty co) rfl (Nat.zero_le _) (Nat.le_refl _)
  refine ⟨M', fun Q => ?_, d2, d3, d4, d5, CO_t co d6⟩
  refine Eq.trans ?_ (d1 Q)
  simp only [k71_0, k71_1, k71_2, k71_5, k71_6, k71_7, k71_8, id_t103 hd, id_r0 hd, id_r3 hd, id_t104 hd, id_l104 hd, id_t105 hd, id_l105 hd, rf_s, pushR_s, pushR_n, le4_0, le4_1, le4_2, le4_3, le4_4, isLong_n, isLong_i, isLong_r, isLong_f, if_true, if_false, not_true_eq_false, not_false_eq_true, isI_0, isI_9, isAr_0, isAr_1, isAr_2, isAr_9, okR_i, okR_0, okR_1, putI_0, putI_b0, putI_b1, nI_10, nI_00, Nat.reduceLT, Nat.reduceLeDiff, nI_add, upM_s, upI_s, pk_mul, nf_at]
end TXE
section TXF
variable {σ : Sg} {M : Mem} {I : Nat → Nat} {s s' : Nat → Nat} {H : Nat → Nat → Nat} {n len : Nat} {T : Nat → Nat} {r : Int32}
theorem ClL_fr2 (L : ClL σ M I s H n len T) {M' : Mem} (f : ∀ o, (o < 14 ∨ 26 < o) → (o < 95 ∨ 98 < o) → o ≠ 103 → o ≠ 105 → M' o = M o) (f1 : M' 103 1 = M 103 1) (h95 : ∃ V, RW M' 95 V) : ClL σ M' I s H n len T := by
  obtain ⟨hk, hh, hc, R, i, ⟨h1, hn⟩, hH, hT, _, ⟨U, u⟩⟩ := L
  refine ⟨hk, hh, IsC_fr hc (f 1001 (by omega) (by omega) (by decide) (by decide)) (f 1002 (by omega) (by omega) (by decide) (by decide)), RG_o R i.1.2.2.2.2.2 (fun o h1 h2 => f o (by omega) (by omega) (by omega) (by omega)), i, ⟨by rw [f 27 (by omega) (by omega) (by decide) (by decide)]; exact h1, hn⟩, fun j hj => ?_, ⟨by rw [f1]; exact hT.1, fun j hj => by rw [f 104 (by omega) (by omega) (by decide) (by decide)]; exact hT.2 j hj⟩, h95, ⟨U, RW_fr u (f 101 (by omega) (by omega) (by decide) (by decide)) (f (101 + 1) (by omega) (by omega) (by decide) (by decide))⟩⟩
  obtain ⟨a, b, c⟩ := hH j hj
  have q := ih_g hh j (by omega)
  exact ⟨RG_o a b.2.2.2.2.2 (fun o h1 h2 => f o (by omega) (by omega) (by omega) (by omega)), b, c⟩
/-- all orders of the text on the ground aside -/
theorem tried (L : ClL σ M I s H n len T) (hl : len ≤ 60) (hT : ∀ j, j < len → T j ≤ 126) {u : Nat × Nat × Int32 × Nat} {t : Nat → Nat} (h : Run T len 61 s 0 0 u t) : ∃ N M', (∀ Q, wp 37 0 [some (.ref 1), some (.ref 14)] [] σ M Q = Q none σ N) ∧ (∀ Q, wp 71 0 [some (.ref 103), some (.ref 14), some (.ref 94), none, none, none] [] σ N Q = Q (some (.int (nI u.2.2.2))) σ M') ∧ RG M' 14 t ∧ (u.1 = 0 → M' 103 5 = nI 0) ∧ (u.1 ≠ 0 → M' 103 5 = nI u.1 ∧ M' 103 6 = nI u.2.1 ∧ M' 103 7 = u.2.2.1) ∧ ClL σ M' I s H n len T ∧ ∀ o, 106 ≤ o → M' o = M o := by
  have L0 := L
  obtain ⟨N, a1, a2, a3⟩ := aside L
  obtain ⟨hk, hh, hc, R, ⟨i, x⟩, h1, hH, hT', ⟨V, v⟩, ⟨U, u'⟩⟩ := L
  obtain ⟨M', b1, b2, b3, b4, b5, b6⟩ := c71 hk h i x a2 ⟨V, RW_fr v (a3 95 (by omega)) (a3 (95 + 1) (by omega))⟩ (IsC_fr hc (a3 1001 (by omega)) (a3 1002 (by omega))) ⟨by rw [a3 103 (by omega)]; exact hT'.1, fun j hj => by rw [a3 104 (by omega)]; exact hT'.2 j hj, hl, hT⟩
  refine ⟨N, M', a1, b1, b2, b4, b5, ClL_fr2 L0 (fun o h1 h2 h3 h4 => by rw [b6.1 o h1 h2 h3 h4, a3 o h1]) (by rw [b6.2, a3 103 (by omega)]) b3, fun o ho => by rw [b6.1 o (by omega) (by omega) (by omega) (by omega), a3 o (by omega)]⟩
theorem c22 (L : ClL σ M I s H n len T) (hl : len ≤ 60) (hT : ∀ j, j < len → T j ≤ 126) {x : Int32} (o : rFault T len s x r) : ∃ M', (∀ Q, wp 22 0 [some (.ref 0), some (.int x)] [] σ M Q = Q (some (.int r)) σ M') ∧ QC σ M M' I s H n len T := by
  have hk := L.1
  rcases o with ⟨w, hw, e, u, t, hR, hr⟩ | ⟨h2, e⟩
  · subst e
    have il := inI_w (n := 2) (by omega) hw
    obtain ⟨N, M', a1, a2, a3, a4, a5, a6, a7⟩ := tried L hl hT hR
    have inv := Run_inv 61 s 0 0 u t L.2.2.2.2.1.1 hR
    refine ⟨M', fun Q => ?_, a6, a7⟩
    rcases hr with ⟨c, hr⟩ | ⟨c, hr⟩
    · subst hr
      have z := a4 c
      simp only [k22_0, k22_1, k22_2, k22_3, k22_6, k22_9, k22_11, k22_12, k22_13, k22_16, k22_17, k22_20, k22_23, k22_24, k22_27, k22_28, k22_31, k22_32, k22_35, k22_38, k22_39, k22_40, k22_43, k22_46, k22_49, k22_51, k22_52, k22_53, k22_80, k22_81, k22_84, k22_87, k22_88, k22_89, k22_92, k22_95, k22_96, k22_97, k22_100, k22_103, ia_t hk.1, ia_r0 hk.1, ia_r1 hk.1, ia_r2 hk.1, ia_r3 hk.1, ia_r4 hk.1, ia_r5 hk.1, id_t103 hk.2.2.2.2.2, id_r0 hk.2.2.2.2.2, id_r3 hk.2.2.2.2.2, id_t104 hk.2.2.2.2.2, id_l104 hk.2.2.2.2.2, id_t105 hk.2.2.2.2.2, id_l105 hk.2.2.2.2.2, rf_s, pushR_s, pushR_n, le4_0, le4_1, le4_2, le4_3, le4_4, isLong_n, isLong_i, isLong_r, isLong_f, if_true, if_false, not_true_eq_false, not_false_eq_true, isI_0, isI_9, isAr_0, isAr_1, isAr_2, isAr_9, okR_i, okR_0, okR_1, putI_0, putI_b0, putI_b1, nI_10, nI_00, Nat.reduceLT, Nat.reduceLeDiff, nI_add, upM_s, upI_s, pk_mul, nf_at, c24, il, a1, a2, z]
    · subst hr
      obtain ⟨z1, z2, z3⟩ := a5 c
      have z : ¬ nI u.1 = 0 := nI_ne0 (by omega) (by omega)
      rcases (show w = 0 ∨ w = 1 ∨ w = 2 by omega) with d | d | d <;> subst d <;> simp only [k22_0, k22_1, k22_2, k22_3, k22_6, k22_9, k22_11, k22_12, k22_13, k22_16, k22_17, k22_20, k22_23, k22_24, k22_27, k22_28, k22_31, k22_32, k22_35, k22_38, k22_39, k22_40, k22_43, k22_46, k22_49, k22_51, k22_52, k22_53, k22_80, k22_81, k22_84, k22_87, k22_88, k22_89, k22_92, k22_95, k22_96, k22_97, k22_100, k22_103, ia_t hk.1, ia_r0 hk.1, ia_r1 hk.1, ia_r2 hk.1, ia_r3 hk.1, ia_r4 hk.1, ia_r5 hk.1, id_t103 hk.2.2.2.2.2, id_r0 hk.2.2.2.2.2, id_r3 hk.2.2.2.2.2, id_t104 hk.2.2.2.2.2, id_l104 hk.2.2.2.2.2, id_t105 hk.2.2.2.2.2, id_l105 hk.2.2.2.2.2, rf_s, pushR_s, pushR_n, le4_0, le4_1, le4_2, le4_3, le4_4, isLong_n, isLong_i, isLong_r, isLong_f, if_true, if_false, not_true_eq_false, not_false_eq_true, isI_0, isI_9, isAr_0, isAr_1, isAr_2, isAr_9, okR_i, okR_0, okR_1, putI_0, putI_b0, putI_b1, nI_10, nI_00, Nat.reduceLT, Nat.reduceLeDiff, nI_add, upM_s, upI_s, pk_mul, nf_at, c24, il, a1, a2, z1, z, z2, z3, nI_lit, Nat.reduceEqDiff]
  · subst e
    have il := inI_q (n := 2) (by omega) h2
    refine ⟨M, fun Q => ?_, QC_r L⟩
    simp only [k22_0, k22_1, k22_2, k22_3, k22_6, k22_9, k22_11, k22_12, k22_13, k22_16, k22_17, k22_20, k22_23, k22_24, k22_27, k22_28, k22_31, k22_32, k22_35, k22_38, k22_39, k22_40, k22_43, k22_46, k22_49, k22_51, k22_52, k22_53, k22_80, k22_81, k22_84, k22_87, k22_88, k22_89, k22_92, k22_95, k22_96, k22_97, k22_100, k22_103, ia_t hk.1, ia_r0 hk.1, ia_r1 hk.1, ia_r2 hk.1, ia_r3 hk.1, ia_r4 hk.1, ia_r5 hk.1, rf_s, pushR_s, pushR_n, le4_0, le4_1, le4_2, le4_3, le4_4, isLong_n, isLong_i, isLong_r, isLong_f, if_true, if_false, not_true_eq_false, not_false_eq_true, isI_0, isI_9, isAr_0, isAr_1, isAr_2, isAr_9, okR_i, okR_0, okR_1, putI_0, putI_b0, putI_b1, nI_10, nI_00, Nat.reduceLT, Nat.reduceLeDiff, nI_add, upM_s, upI_s, pk_mul, nf_at, c24, il]
theorem c23 (L : ClL σ M I s H n len T) (hl : len ≤ 60) (hT : ∀ j, j < len → T j ≤ 126) (o : oPlay T len s r s') : ∃ τ M', (∀ Q, wp 23 0 [some (.ref 0), none] [] σ M Q = Q (some (.int r)) τ M') ∧ CC σ M τ M' s s' H n len T r := by
  have hk := L.1
  have hh := L.2.1
  have i := L.2.2.2.2.1
  have ok := oPlay_inv i.1 o
  obtain ⟨u, hR, hr⟩ := o
  obtain ⟨N, M1, a1, a2, a3, a4, a5, a6, a7⟩ := tried L hl hT hR
  have inv := Run_inv 61 s 0 0 u s' i.1 hR
  rcases hr with ⟨c, hr⟩ | ⟨c, hr⟩
  · subst hr
    have z := a4 c
    obtain ⟨P, b1, b2, b3, b4, b5, b6⟩ := prep a6
    have q := ih_g hh n (by have := L.2.2.2.2.2.1.2; omega)
    have n4 := L.2.2.2.2.2.1.2
    have r14 : RG P 14 s' := RG_o a3 ok.1.2.2.2.2.2 (fun o h1 h2 => b3 o (by omega))
    obtain ⟨S, d1, d2, d3⟩ := c37 hk.2.2.1 hk.2.1 (Or.inr (by omega)) r14 ok.1
    obtain ⟨τ, M', e1, e2⟩ := chgC a6 b2 b3 d2 (FC_g d3) (rw_g b5 d3) ⟨ok.1, Run_x 61 s 0 0 u s' i.1 i.2 hR⟩ (r := nI u.2.2.2) (Or.inr (nr_nI (by omega)))
    refine ⟨τ, M', fun Q => ?_, e2.1, e2.2.1, e2.2.2.1, fun o ho => by rw [e2.2.2.2 o ho, a7 o ho]⟩
    simp only [k23_0, k23_1, k23_4, k23_5, k23_8, k23_11, k23_12, k23_15, k23_16, k23_19, k23_20, k23_23, k23_26, k23_27, k23_28, k23_31, k23_34, k23_37, k23_39, k23_40, k23_41, k23_44, k23_45, k23_48, k23_51, k23_52, k23_55, k23_56, k23_59, k23_62, k23_63, k23_66, k23_67, k23_70, ia_t hk.1, ia_r0 hk.1, ia_r1 hk.1, ia_r2 hk.1, ia_r3 hk.1, ia_r4 hk.1, ia_r5 hk.1, id_t103 hk.2.2.2.2.2, id_r0 hk.2.2.2.2.2, id_r3 hk.2.2.2.2.2, id_t104 hk.2.2.2.2.2, id_l104 hk.2.2.2.2.2, id_t105 hk.2.2.2.2.2, id_l105 hk.2.2.2.2.2, ih_t27 hh, rf_s, pushR_s, pushR_n, le4_0, le4_1, le4_2, le4_3, le4_4, isLong_n, isLong_i, isLong_r, isLong_f, if_true, if_false, not_true_eq_false, not_false_eq_true, isI_0, isI_9, isAr_0, isAr_1, isAr_2, isAr_9, okR_i, okR_0, okR_1, putI_0, putI_b0, putI_b1, nI_10, nI_00, Nat.reduceLT, Nat.reduceLeDiff, nI_add, upM_s, upI_s, pk_mul, nf_at, a1, a2, z, b1, d1, e1]
  · subst hr
    obtain ⟨z1, z2, z3⟩ := a5 c
    have z : ¬ nI u.1 = 0 := nI_ne0 (by omega) (by omega)
    refine ⟨σ, M1, fun Q => ?_, fun _ => ⟨I, a6⟩, fun q => (er_nr (Or.inr (Or.inl rfl)) q).elim, Sm_r, a7⟩
    simp only [k23_0, k23_1, k23_4, k23_5, k23_8, k23_11, k23_12, k23_15, k23_16, k23_19, k23_20, k23_23, k23_26, k23_27, k23_28, k23_31, k23_34, k23_37, k23_39, k23_40, k23_41, k23_44, k23_45, k23_48, k23_51, k23_52, k23_55, k23_56, k23_59, k23_62, k23_63, k23_66, k23_67, k23_70, ia_t hk.1, ia_r0 hk.1, ia_r1 hk.1, ia_r2 hk.1, ia_r3 hk.1, ia_r4 hk.1, ia_r5 hk.1, id_t103 hk.2.2.2.2.2, id_r0 hk.2.2.2.2.2, id_r3 hk.2.2.2.2.2, id_t104 hk.2.2.2.2.2, id_l104 hk.2.2.2.2.2, id_t105 hk.2.2.2.2.2, id_l105 hk.2.2.2.2.2, rf_s, pushR_s, pushR_n, le4_0, le4_1, le4_2, le4_3, le4_4, isLong_n, isLong_i, isLong_r, isLong_f, if_true, if_false, not_true_eq_false, not_false_eq_true, isI_0, isI_9, isAr_0, isAr_1, isAr_2, isAr_9, okR_i, okR_0, okR_1, putI_0, putI_b0, putI_b1, nI_10, nI_00, Nat.reduceLT, Nat.reduceLeDiff, nI_add, upM_s, upI_s, pk_mul, nf_at, a1, a2, z1, z]
end TXF
