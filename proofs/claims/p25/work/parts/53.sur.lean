/-! the survey, the orders -/
def IsV (σ : Sg) : Prop := (sT σ 99 = 14) ∧ (sR σ 99 0 = some 100) ∧ (sR σ 99 1 = some 101) ∧ (sT σ 100 = 0) ∧ (sL σ 100 = 10) ∧ IsW σ 101
theorem iv_t99 {σ : Sg} (h : IsV σ) : sT σ 99 = 14 := h.1
theorem iv_r0 {σ : Sg} (h : IsV σ) : sR σ 99 0 = some 100 := h.2.1
theorem iv_r1 {σ : Sg} (h : IsV σ) : sR σ 99 1 = some 101 := h.2.2.1
theorem iv_t100 {σ : Sg} (h : IsV σ) : sT σ 100 = 0 := h.2.2.2.1
theorem iv_l100 {σ : Sg} (h : IsV σ) : sL σ 100 = 10 := h.2.2.2.2.1
theorem iv_w {σ : Sg} (h : IsV σ) : IsW σ 101 := h.2.2.2.2.2
def IsD (σ : Sg) : Prop := (sT σ 103 = 13) ∧ (sR σ 103 0 = some 104) ∧ (sR σ 103 3 = some 105) ∧ (sT σ 104 = 1) ∧ (sL σ 104 = 60) ∧ (sT σ 105 = 0) ∧ (sL σ 105 = 3)
theorem id_t103 {σ : Sg} (h : IsD σ) : sT σ 103 = 13 := h.1
theorem id_r0 {σ : Sg} (h : IsD σ) : sR σ 103 0 = some 104 := h.2.1
theorem id_r3 {σ : Sg} (h : IsD σ) : sR σ 103 3 = some 105 := h.2.2.1
theorem id_t104 {σ : Sg} (h : IsD σ) : sT σ 104 = 1 := h.2.2.2.1
theorem id_l104 {σ : Sg} (h : IsD σ) : sL σ 104 = 60 := h.2.2.2.2.1
theorem id_t105 {σ : Sg} (h : IsD σ) : sT σ 105 = 0 := h.2.2.2.2.2.1
theorem id_l105 {σ : Sg} (h : IsD σ) : sL σ 105 = 3 := h.2.2.2.2.2.2
def cnt (d : Nat → Nat) (w : Nat) : Nat := sumTo (fun p => if d p < d w then 1 else 0) 10
/-- no finite length is great -/
def Bd (d : Nat → Nat) : Prop := ∀ w, w < 10 → d w < 1000 → d w ≤ 20 * cnt d w
theorem cnt_le {d : Nat → Nat} {w : Nat} (hw : w < 10) : cnt d w ≤ 9 := by
  have h := sumTo_lt (f := fun p => if d p < d w then 1 else 0) (g := fun _ => 1) (n := 10) (u := w) (fun k _ => by
    show (if d k < d w then 1 else 0) ≤ 1
    split <;> omega) hw (by
    show (if d w < d w then 1 else 0) < 1
    rw [if_neg (by omega)]
    decide)
  have e : sumTo (fun _ => 1) 10 = 10 := by decide
  unfold cnt
  omega
theorem Bd_up {d : Nat → Nat} {v u l : Nat} (h : Bd d) (hu : u < 10) (hv : v < 10) (n : u ≠ v) (l1 : 1 ≤ l) (l2 : l ≤ 20) (h1 : ∀ p, d p ≤ 1000) : Bd (up1 d v u l) := by
  unfold up1
  by_cases c : d u + l < d v
  · rw [if_pos c]
    intro w hw hf
    have hv1 := h1 v
    by_cases cw : w = v
    · subst cw
      rw [upN_s] at hf ⊢
      have b := h u hu (by omega)
      have lt : cnt d u < cnt (upN d w (d u + l)) w := by
        unfold cnt
        refine sumTo_lt (u := u) (fun k hk => ?_) hu ?_
        · show (if d k < d u then 1 else 0) ≤ (if upN d w (d u + l) k < upN d w (d u + l) w then 1 else 0)
          rw [upN_s]
          by_cases ck : d k < d u
          · have : k ≠ w := fun e => by rw [e] at ck; omega
            rw [if_pos ck, upN_n this, if_pos (by omega)]; exact Nat.le_refl _
          · rw [if_neg ck]; exact Nat.zero_le _
        · show (if d u < d u then 1 else 0) < (if upN d w (d u + l) u < upN d w (d u + l) w then 1 else 0)
          rw [upN_s, upN_n n, if_neg (by omega), if_pos (by omega)]
          decide
      omega
    · rw [upN_n cw] at hf ⊢
      have b := h w hw hf
      have le : cnt d w ≤ cnt (upN d v (d u + l)) w := by
        unfold cnt
        refine sumTo_le2 (fun k hk => ?_)
        show (if d k < d w then 1 else 0) ≤ (if upN d v (d u + l) k < upN d v (d u + l) w then 1 else 0)
        rw [upN_n cw]
        by_cases ck : d k < d w
        · rw [if_pos ck]
          by_cases cv : k = v
          · rw [cv, upN_s, if_pos (by rw [cv] at ck; omega)]; exact Nat.le_refl _
          · rw [upN_n cv, if_pos ck]; exact Nat.le_refl _
        · rw [if_neg ck]; exact Nat.zero_le _
      omega
  · rw [if_neg c, upN_self rfl]
    exact h
theorem Bd_180 {d : Nat → Nat} (h : Bd d) {w : Nat} (hw : w < 10) (hf : d w < 1000) : d w ≤ 180 := by
  have a := h w hw hf
  have b := cnt_le (d := d) hw
  omega
theorem Bd_rx {s d : Nat → Nat} {k : Nat} (g : Gph s) (hk : k < s 1) (h : Bd d) (h1 : ∀ p, d p ≤ 1000) : Bd (rx s k d) := by
  have p := g.2.2 k hk
  unfold pOk at p
  have g0 := g.1
  unfold rx
  split
  · exact h
  · exact Bd_up (Bd_up h (by omega) (by omega) (Ne.symm p.2.2.1) p.2.2.2.1 p.2.2.2.2.1 h1) (by omega) (by omega) p.2.2.1 p.2.2.2.1 p.2.2.2.2.1 (fun q => Nat.le_trans up1_le (h1 q))
theorem Bd_rds {s d : Nat → Nat} (g : Gph s) (h : Bd d) (h1 : ∀ p, d p ≤ 1000) : ∀ n, n ≤ s 1 → Bd (rds s d n)
  | 0, _ => h
  | n + 1, hn => Bd_rx g (by omega) (Bd_rds g h h1 n (by omega)) (rds_le1 h1 n)
theorem Bd_Dr {s : Nat → Nat} (g : Gph s) : ∀ r, Bd (Dr s r)
  | 0 => fun w hw hf => by
    have h : D0 w < 1000 := hf
    unfold D0 at h
    split at h
    · rename_i e
      rw [e]
      exact Nat.zero_le _
    · omega
  | r + 1 => Bd_rds g (Bd_Dr g r) (fun p => Dr_le r) _ (Nat.le_refl _)
/-- as the class writes it: too far is 1000000 -/
def tf (n : Nat) : Nat := if n < 1000 then n else 1000000
def Hd (d : Nat → Nat) : Nat → Nat := fun p => tf (d p)
theorem Hd_up {d : Nat → Nat} {v u l : Nat} (hd : d u < 1000 → d u + l < 1000) (h1 : ∀ p, d p ≤ 1000) : Hd (up1 d v u l) = upN (Hd d) v (if Hd d u + l < Hd d v then Hd d u + l else Hd d v) := by
  have hu := h1 u
  have hv := h1 v
  funext p
  unfold Hd up1
  by_cases c : p = v
  · subst c
    rw [upN_s, upN_s]
    unfold tf
    by_cases cu : d u < 1000
    · have := hd cu
      rw [if_pos cu]
      by_cases cv : d p < 1000
      · rw [if_pos cv]
        by_cases q : d u + l < d p
        · simp only [if_pos q, if_pos this]
        · simp only [if_neg q, if_pos cv]
      · rw [if_neg cv, if_pos (show d u + l < d p by omega), if_pos (by omega), if_pos (by omega)]
    · rw [if_neg cu, if_neg (show ¬ d u + l < d p by omega)]
      by_cases cv : d p < 1000
      · rw [if_pos cv, if_neg (by omega)]
      · rw [if_neg cv, if_neg (by omega)]
  · rw [upN_n c, upN_n c]
def vM (M : Mem) (d : Nat → Nat) : Mem := upM M 100 (cp 10 (nf d) (M 100))
theorem vM_at {M : Mem} {d : Nat → Nat} {j : Nat} (h : j < 10) : vM M d 100 j = nI (d j) := by
  show (upM M 100 (cp 10 (nf d) (M 100))) 100 j = _
  rw [upM_s]
  exact if_pos h
theorem vM_up {M : Mem} {d : Nat → Nat} {j x : Nat} (h : j < 10) : upM (vM M d) 100 (upI (vM M d 100) j (nI x)) = vM M (upN d j x) := by
  unfold vM
  rw [upM_s, upM_up]
  refine congrArg (upM M 100) (funext fun i => ?_)
  unfold upI cp nf upN
  by_cases c : i = j
  · rw [if_pos c, if_pos c, if_pos (by omega)]
  · rw [if_neg c, if_neg c]
section SUR
variable {σ : Sg} {M : Mem} {g : Nat} {s : Nat → Nat}
theorem vM_RG (dg : g + 12 < 94) (R : RG M g s) (i : Inv s) (d : Nat → Nat) : RG (vM M d) g s := RG_o R i.2.2.2.2.2 (fun o h1 h2 => upM_n (by omega))
theorem c81 (hv : IsV σ) (hg : IsG σ g) (dg : g + 12 < 94) (R : RG M g s) (i : Inv s) {d : Nat → Nat} (hd : ∀ p, d p ≤ 1000) (hB : Bd d) {k : Nat} (hk : k < s 1) (Q : Po) : wp 81 0 [some (.ref 99), some (.ref g), some (.int (nI k)), none, none] [] σ (vM M (Hd d)) Q = Q none σ (vM M (Hd (rx s k d))) := by
  have g1 := i.1.2.1
  have rN := vM_RG dg R i
  have m39 := fun Q => c39y (Q := Q) hg (rN (Hd d)) i hk
  have m42 := fun Q => c42 (Q := Q) hg (rN (Hd d)) i hk
  have pk := i.1.2.2 k hk
  unfold pOk at pk
  have g0 := i.1.1
  have h16 : k < 16 := by omega
  have hc := pk.2.2.2.2.2.2.2
  unfold rx
  by_cases c : s (30 + 6 * k + 4) = 1
  · rw [if_pos c]
    simp only [k81_0, k81_1, k81_2, k81_5, k81_8, k81_9, k81_10, k81_13, k81_16, k81_17, k81_18, k81_21, k81_22, k81_23, k81_24, k81_25, k81_28, k81_29, k81_30, k81_32, k81_33, k81_34, k81_35, k81_38, k81_39, k81_40, k81_41, k81_44, k81_47, k81_49, k81_50, k81_51, k81_54, k81_55, k81_56, k81_57, k81_60, k81_63, k81_64, k81_67, k81_68, k81_69, k81_72, k81_73, k81_74, k81_75, k81_78, k81_80, k81_81, k81_82, k81_85, k81_86, k81_87, k81_88, k81_91, k81_92, k81_93, k81_96, k81_98, k81_99, k81_102, k81_104, k81_105, k81_106, k81_109, k81_110, k81_111, k81_112, k81_115, k81_116, k81_117, k81_118, k81_121, k81_122, iv_t99 hv, iv_r0 hv, iv_r1 hv, iv_t100 hv, iv_l100 hv, iw_t0 (iv_w hv), iw_t1 (iv_w hv), iw_l1 (iv_w hv), iw_r0 (iv_w hv), ig_t0 hg, ig_t1 hg, ig_t2 hg, ig_t3 hg, ig_t4 hg, ig_t5 hg, ig_t6 hg, ig_t7 hg, ig_t8 hg, ig_t9 hg, ig_t10 hg, ig_t11 hg, ig_t12 hg, ig_l1 hg, ig_l2 hg, ig_l3 hg, ig_l4 hg, ig_l5 hg, ig_l6 hg, ig_l7 hg, ig_l8 hg, ig_l9 hg, ig_l10 hg, ig_l12 hg, ig_r1 hg, ig_r2 hg, ig_r4 hg, ig_r5 hg, ig_r6 hg, ig_r7 hg, ig_r8 hg, ig_r9 hg, ig_r12 hg, ig_r14 hg, ig_r15 hg, ig_rw hg, rf_s, pushR_s, pushR_n, le4_0, le4_1, le4_2, le4_3, le4_4, isLong_n, isLong_i, isLong_r, isLong_f, if_true, if_false, not_true_eq_false, not_false_eq_true, isI_0, isI_9, isAr_0, isAr_1, isAr_2, isAr_9, okR_i, okR_0, okR_1, putI_0, putI_b0, putI_b1, nI_10, nI_00, Nat.reduceLT, Nat.reduceLeDiff, nI_add, upM_s, upI_s, pk_mul, nf_at, m39, m42, c]
  · rw [if_neg c]
    have c0 : s (30 + 6 * k + 4) = 0 := by omega
    have e0 := fun d => rg_one (rN d) k h16
    have e1 := fun d => rg_oth (rN d) k h16
    have e2 := fun d => rg_len (rN d) k h16
    have ha : s (30 + 6 * k + 0) < 10 := by omega
    have hb : s (30 + 6 * k + 1) < 10 := by omega
    have hl1 := pk.2.2.2.1
    have hl2 := pk.2.2.2.2.1
    have hab := pk.2.2.1
    generalize s (30 + 6 * k + 0) = a at *
    generalize s (30 + 6 * k + 1) = b at *
    generalize s (30 + 6 * k + 2) = l at *
    have ila := inI_w (n := 9) (w := a) (by omega) (by omega)
    have ilb := inI_w (n := 9) (w := b) (by omega) (by omega)
    have at_ : ∀ d, ∀ j, j < 10 → vM M d 100 j = nI (d j) := fun d j h => vM_at h
    have up_ : ∀ d x j, j < 10 → upM (vM M d) 100 (upI (vM M d 100) j (nI x)) = vM M (upN d j x) := fun d x j h => vM_up h
    have tb : ∀ d : Nat → Nat, ∀ p, Hd d p ≤ 1000000 := fun d p => by
      unfold Hd tf
      split <;> omega
    have mn : ∀ (e : Nat → Nat) (u v : Nat), (∀ p, e p ≤ 1000000) → (if nI (e u + l) < nI (e v) then nI (e u + l) else nI (e v)) = nI (if e u + l < e v then e u + l else e v) := fun e u v he => by
      have := he u
      have := he v
      by_cases q : e u + l < e v
      · rw [if_pos q, if_pos (nI_lt q (by omega))]
      · rw [if_neg q, if_neg (nI_nlt (by omega) (by omega))]
    have s1 : up1 (Hd d) a b l = Hd (up1 d a b l) := (Hd_up (fun h => by have := Bd_180 hB hb h; omega) hd).symm
    have hd1 : ∀ p, up1 d a b l p ≤ 1000 := fun p => Nat.le_trans up1_le (hd p)
    have hB1 : Bd (up1 d a b l) := Bd_up hB hb ha (Ne.symm hab) hl1 hl2 hd
    have s2 : up1 (Hd (up1 d a b l)) b a l = Hd (up1 (up1 d a b l) b a l) := (Hd_up (fun h => by have := Bd_180 hB1 ha h; omega) hd1).symm
    have n1 := mn (Hd d) b a (tb d)
    have n2 := mn (Hd (up1 d a b l)) a b (tb _)
    have f1 : upN (Hd d) a (if Hd d b + l < Hd d a then Hd d b + l else Hd d a) = Hd (up1 d a b l) := s1
    have f2 : upN (Hd (up1 d a b l)) b (if Hd (up1 d a b l) a + l < Hd (up1 d a b l) b then Hd (up1 d a b l) a + l else Hd (up1 d a b l) b) = Hd (up1 (up1 d a b l) b a l) := s2
    simp only [k81_0, k81_1, k81_2, k81_5, k81_8, k81_9, k81_10, k81_13, k81_16, k81_17, k81_18, k81_21, k81_22, k81_23, k81_24, k81_25, k81_28, k81_29, k81_30, k81_32, k81_33, k81_34, k81_35, k81_38, k81_39, k81_40, k81_41, k81_44, k81_47, k81_49, k81_50, k81_51, k81_54, k81_55, k81_56, k81_57, k81_60, k81_63, k81_64, k81_67, k81_68, k81_69, k81_72, k81_73, k81_74, k81_75, k81_78, k81_80, k81_81, k81_82, k81_85, k81_86, k81_87, k81_88, k81_91, k81_92, k81_93, k81_96, k81_98, k81_99, k81_102, k81_104, k81_105, k81_106, k81_109, k81_110, k81_111, k81_112, k81_115, k81_116, k81_117, k81_118, k81_121, k81_122, iv_t99 hv, iv_r0 hv, iv_r1 hv, iv_t100 hv, iv_l100 hv, iw_t0 (iv_w hv), iw_t1 (iv_w hv), iw_l1 (iv_w hv), iw_r0 (iv_w hv), ig_t0 hg, ig_t1 hg, ig_t2 hg, ig_t3 hg, ig_t4 hg, ig_t5 hg, ig_t6 hg, ig_t7 hg, ig_t8 hg, ig_t9 hg, ig_t10 hg, ig_t11 hg, ig_t12 hg, ig_l1 hg, ig_l2 hg, ig_l3 hg, ig_l4 hg, ig_l5 hg, ig_l6 hg, ig_l7 hg, ig_l8 hg, ig_l9 hg, ig_l10 hg, ig_l12 hg, ig_r1 hg, ig_r2 hg, ig_r4 hg, ig_r5 hg, ig_r6 hg, ig_r7 hg, ig_r8 hg, ig_r9 hg, ig_r12 hg, ig_r14 hg, ig_r15 hg, ig_rw hg, rf_s, pushR_s, pushR_n, le4_0, le4_1, le4_2, le4_3, le4_4, isLong_n, isLong_i, isLong_r, isLong_f, if_true, if_false, not_true_eq_false, not_false_eq_true, isI_0, isI_9, isAr_0, isAr_1, isAr_2, isAr_9, okR_i, okR_0, okR_1, putI_0, putI_b0, putI_b1, nI_10, nI_00, Nat.reduceLT, Nat.reduceLeDiff, nI_add, upM_s, upI_s, pk_mul, nf_at, m39, m42, c0, h16, e0, e1, e2, c24, pk_sub, Nat.reduceSub, ila, ilb, at_ _ a ha, at_ _ b hb, ha, hb, n1, up_ _ _ a ha, f1, n2, up_ _ _ b hb, f2]
theorem c80 (hv : IsV σ) (hg : IsG σ g) (dg : g + 12 < 94) (R : RG M g s) (i : Inv s) {p : Nat} (hp : p < s 0) (Q : Po) : wp 80 0 [some (.ref 99), some (.ref g), some (.int (nI p)), none, none] [] σ M Q = Q (some (.int (dist s p))) σ (vM M (Hd (Dr s (s 0)))) := by
  have g0 := i.1.1
  have g1 := i.1.2.1
  have m38 := fun Q => c38y (Q := Q) hg R i hp
  have rN := vM_RG dg R i
  have hT : nf (Hd D0) 0 = nI 0 := rfl
  simp only [k80_0, k80_1, k80_2, k80_5, k80_8, k80_10, k80_11, k80_12, ig_t0 hg, ig_t1 hg, ig_t2 hg, ig_t3 hg, ig_t4 hg, ig_t5 hg, ig_t6 hg, ig_t7 hg, ig_t8 hg, ig_t9 hg, ig_t10 hg, ig_t11 hg, ig_t12 hg, ig_l1 hg, ig_l2 hg, ig_l3 hg, ig_l4 hg, ig_l5 hg, ig_l6 hg, ig_l7 hg, ig_l8 hg, ig_l9 hg, ig_l10 hg, ig_l12 hg, ig_r1 hg, ig_r2 hg, ig_r4 hg, ig_r5 hg, ig_r6 hg, ig_r7 hg, ig_r8 hg, ig_r9 hg, ig_r12 hg, ig_r14 hg, ig_r15 hg, ig_rw hg, rf_s, pushR_s, pushR_n, le4_0, le4_1, le4_2, le4_3, le4_4, isLong_n, isLong_i, isLong_r, isLong_f, if_true, if_false, not_true_eq_false, not_false_eq_true, isI_0, isI_9, isAr_0, isAr_1, isAr_2, isAr_9, okR_i, okR_0, okR_1, putI_0, putI_b0, putI_b1, nI_10, nI_00, Nat.reduceLT, Nat.reduceLeDiff, nI_add, upM_s, upI_s, pk_mul, nf_at, m38]
  rw [show wp 80 13 [some (.ref 99), some (.ref g), some (.int (nI p)), some (.int (nI 0)), none] [] σ M Q = wp 80 13 [some (.ref 99), some (.ref g), some (.int (nI p)), some (.int (nI 0)), none] [] σ (upM M 100 (cp 0 (nf (Hd D0)) (M 100))) Q from by rw [cp_0, upM_self rfl]]
  refine (wp_up (n := 10) (fun k => [some (.ref 99), some (.ref g), some (.int (nI p)), some (.int (nI k)), none]) (fun k => upM M 100 (cp k (nf (Hd D0)) (M 100))) Q (fun k hk => ?_)).trans ?_
  · have e : nI k < nI 10 := nI_lt hk (by omega)
    have up := cp_up (f := nf (Hd D0)) (g := M 100) (n := k)
    rw [k80_13]
    by_cases c : k = 0
    · subst c
      have up' : upI (cp 0 (nf (Hd D0)) (M 100)) 0 (nI 0) = cp (0 + 1) (nf (Hd D0)) (M 100) := up
      simp only [k80_14, k80_15, k80_18, k80_19, k80_22, k80_23, k80_26, k80_27, k80_28, k80_31, k80_32, k80_35, k80_37, k80_38, k80_41, iv_t99 hv, iv_r0 hv, iv_r1 hv, iv_t100 hv, iv_l100 hv, iw_t0 (iv_w hv), iw_t1 (iv_w hv), iw_l1 (iv_w hv), iw_r0 (iv_w hv), rf_s, pushR_s, pushR_n, le4_0, le4_1, le4_2, le4_3, le4_4, isLong_n, isLong_i, isLong_r, isLong_f, if_true, if_false, not_true_eq_false, not_false_eq_true, isI_0, isI_9, isAr_0, isAr_1, isAr_2, isAr_9, okR_i, okR_0, okR_1, putI_0, putI_b0, putI_b1, nI_10, nI_00, Nat.reduceLT, Nat.reduceLeDiff, nI_add, upM_s, upI_s, pk_mul, nf_at, e, upM_up, up']
    · have z : ¬ nI k = 0 := nI_ne0 (by omega) (by omega)
      have up' : upI (cp k (nf (Hd D0)) (M 100)) k (nI 1000000) = cp (k + 1) (nf (Hd D0)) (M 100) := by
        rw [← up]
        unfold nf Hd D0
        rw [if_neg c]
        rfl
      simp only [k80_14, k80_15, k80_18, k80_19, k80_22, k80_23, k80_26, k80_27, k80_28, k80_31, k80_32, k80_35, k80_37, k80_38, k80_41, iv_t99 hv, iv_r0 hv, iv_r1 hv, iv_t100 hv, iv_l100 hv, iw_t0 (iv_w hv), iw_t1 (iv_w hv), iw_l1 (iv_w hv), iw_r0 (iv_w hv), rf_s, pushR_s, pushR_n, le4_0, le4_1, le4_2, le4_3, le4_4, isLong_n, isLong_i, isLong_r, isLong_f, if_true, if_false, not_true_eq_false, not_false_eq_true, isI_0, isI_9, isAr_0, isAr_1, isAr_2, isAr_9, okR_i, okR_0, okR_1, putI_0, putI_b0, putI_b1, nI_10, nI_00, Nat.reduceLT, Nat.reduceLeDiff, nI_add, upM_s, upI_s, pk_mul, nf_at, e, z, hk, upM_up, up']
  · have e : ¬ nI 10 < nI 10 := by decide
    rw [k80_13]
    simp only [k80_14, k80_15, k80_18, k80_19, k80_22, k80_23, k80_26, k80_27, k80_28, k80_31, k80_32, k80_35, k80_37, k80_38, k80_41, k80_44, k80_45, iv_t99 hv, iv_r0 hv, iv_r1 hv, iv_t100 hv, iv_l100 hv, iw_t0 (iv_w hv), iw_t1 (iv_w hv), iw_l1 (iv_w hv), iw_r0 (iv_w hv), rf_s, pushR_s, pushR_n, le4_0, le4_1, le4_2, le4_3, le4_4, isLong_n, isLong_i, isLong_r, isLong_f, if_true, if_false, not_true_eq_false, not_false_eq_true, isI_0, isI_9, isAr_0, isAr_1, isAr_2, isAr_9, okR_i, okR_0, okR_1, putI_0, putI_b0, putI_b1, nI_10, nI_00, Nat.reduceLT, Nat.reduceLeDiff, nI_add, upM_s, upI_s, pk_mul, nf_at, e]
    show wp 80 46 _ [] σ (vM M (Hd D0)) Q = _
    have inner : ∀ (r : Nat) (l4 : Option Value) n, n ≤ s 1 → wp 80 57 [some (.ref 99), some (.ref g), some (.int (nI p)), some (.int (nI r)), some (.int (nI 0))] [] σ (vM M (Hd (Dr s (r - 1)))) Q = wp 80 57 [some (.ref 99), some (.ref g), some (.int (nI p)), some (.int (nI r)), some (.int (nI n))] [] σ (vM M (Hd (rds s (Dr s (r - 1)) n))) Q := by
      intro r l4 n hn
      induction n with
      | zero => rfl
      | succ n ih =>
        have e : nI n < nI (s 1) := nI_lt hn (by omega)
        have m81 := fun Q => c81 (Q := Q) hv hg dg R i (d := rds s (Dr s (r - 1)) n) (rds_le1 (fun p => Dr_le _) n) (Bd_rds i.1 (Bd_Dr i.1 _) (fun p => Dr_le _) n (by omega)) (k := n) hn
        rw [ih (by omega), k80_57]
        simp only [k80_59, k80_60, k80_63, k80_66, k80_67, k80_68, k80_70, k80_73, k80_76, iv_t99 hv, iv_r0 hv, iv_r1 hv, iv_t100 hv, iv_l100 hv, iw_t0 (iv_w hv), iw_t1 (iv_w hv), iw_l1 (iv_w hv), iw_r0 (iv_w hv), ig_t0 hg, ig_t1 hg, ig_t2 hg, ig_t3 hg, ig_t4 hg, ig_t5 hg, ig_t6 hg, ig_t7 hg, ig_t8 hg, ig_t9 hg, ig_t10 hg, ig_t11 hg, ig_t12 hg, ig_l1 hg, ig_l2 hg, ig_l3 hg, ig_l4 hg, ig_l5 hg, ig_l6 hg, ig_l7 hg, ig_l8 hg, ig_l9 hg, ig_l10 hg, ig_l12 hg, ig_r1 hg, ig_r2 hg, ig_r4 hg, ig_r5 hg, ig_r6 hg, ig_r7 hg, ig_r8 hg, ig_r9 hg, ig_r12 hg, ig_r14 hg, ig_r15 hg, ig_rw hg, rf_s, pushR_s, pushR_n, le4_0, le4_1, le4_2, le4_3, le4_4, isLong_n, isLong_i, isLong_r, isLong_f, if_true, if_false, not_true_eq_false, not_false_eq_true, isI_0, isI_9, isAr_0, isAr_1, isAr_2, isAr_9, okR_i, okR_0, okR_1, putI_0, putI_b0, putI_b1, nI_10, nI_00, Nat.reduceLT, Nat.reduceLeDiff, nI_add, upM_s, upI_s, pk_mul, nf_at, rg_nc (rN _), e, m81]
        rfl
    have outer : ∀ r, r + 1 ≤ s 0 → ∃ l4, wp 80 46 [some (.ref 99), some (.ref g), some (.int (nI p)), some (.int (nI 1)), none] [] σ (vM M (Hd D0)) Q = wp 80 46 [some (.ref 99), some (.ref g), some (.int (nI p)), some (.int (nI (r + 1))), l4] [] σ (vM M (Hd (Dr s r))) Q := by
      intro r hr
      induction r with
      | zero => exact ⟨none, rfl⟩
      | succ r ih =>
        obtain ⟨l4, ih⟩ := ih (by omega)
        have e : nI (r + 1) < nI (s 0) := nI_lt (by omega) (by omega)
        have e2 : ¬ nI (s 1) < nI (s 1) := nI_nlt (Nat.le_refl _) (by omega)
        refine ⟨some (.int (nI (s 1))), ?_⟩
        rw [ih, k80_46]
        simp only [k80_47, k80_48, k80_51, k80_54, k80_55, iv_t99 hv, iv_r0 hv, iv_r1 hv, iv_t100 hv, iv_l100 hv, iw_t0 (iv_w hv), iw_t1 (iv_w hv), iw_l1 (iv_w hv), iw_r0 (iv_w hv), ig_t0 hg, ig_t1 hg, ig_t2 hg, ig_t3 hg, ig_t4 hg, ig_t5 hg, ig_t6 hg, ig_t7 hg, ig_t8 hg, ig_t9 hg, ig_t10 hg, ig_t11 hg, ig_t12 hg, ig_l1 hg, ig_l2 hg, ig_l3 hg, ig_l4 hg, ig_l5 hg, ig_l6 hg, ig_l7 hg, ig_l8 hg, ig_l9 hg, ig_l10 hg, ig_l12 hg, ig_r1 hg, ig_r2 hg, ig_r4 hg, ig_r5 hg, ig_r6 hg, ig_r7 hg, ig_r8 hg, ig_r9 hg, ig_r12 hg, ig_r14 hg, ig_r15 hg, ig_rw hg, rf_s, pushR_s, pushR_n, le4_0, le4_1, le4_2, le4_3, le4_4, isLong_n, isLong_i, isLong_r, isLong_f, if_true, if_false, not_true_eq_false, not_false_eq_true, isI_0, isI_9, isAr_0, isAr_1, isAr_2, isAr_9, okR_i, okR_0, okR_1, putI_0, putI_b0, putI_b1, nI_10, nI_00, Nat.reduceLT, Nat.reduceLeDiff, nI_add, upM_s, upI_s, pk_mul, nf_at, rg_pc (rN _), e]
        have q := inner (r + 1) l4 (s 1) (Nat.le_refl _)
        rw [Nat.add_sub_cancel] at q
        rw [q, k80_57]
        simp only [k80_59, k80_60, k80_63, k80_66, k80_67, k80_68, k80_70, k80_73, k80_76, k80_79, k80_82, iv_t99 hv, iv_r0 hv, iv_r1 hv, iv_t100 hv, iv_l100 hv, iw_t0 (iv_w hv), iw_t1 (iv_w hv), iw_l1 (iv_w hv), iw_r0 (iv_w hv), ig_t0 hg, ig_t1 hg, ig_t2 hg, ig_t3 hg, ig_t4 hg, ig_t5 hg, ig_t6 hg, ig_t7 hg, ig_t8 hg, ig_t9 hg, ig_t10 hg, ig_t11 hg, ig_t12 hg, ig_l1 hg, ig_l2 hg, ig_l3 hg, ig_l4 hg, ig_l5 hg, ig_l6 hg, ig_l7 hg, ig_l8 hg, ig_l9 hg, ig_l10 hg, ig_l12 hg, ig_r1 hg, ig_r2 hg, ig_r4 hg, ig_r5 hg, ig_r6 hg, ig_r7 hg, ig_r8 hg, ig_r9 hg, ig_r12 hg, ig_r14 hg, ig_r15 hg, ig_rw hg, rf_s, pushR_s, pushR_n, le4_0, le4_1, le4_2, le4_3, le4_4, isLong_n, isLong_i, isLong_r, isLong_f, if_true, if_false, not_true_eq_false, not_false_eq_true, isI_0, isI_9, isAr_0, isAr_1, isAr_2, isAr_9, okR_i, okR_0, okR_1, putI_0, putI_b0, putI_b1, nI_10, nI_00, Nat.reduceLT, Nat.reduceLeDiff, nI_add, upM_s, upI_s, pk_mul, nf_at, rg_nc (rN _), e2]
        rfl
    obtain ⟨l4, o⟩ := outer (s 0 - 1) (by omega)
    rw [show s 0 - 1 + 1 = s 0 by omega, ← Dr_end i.1 (by omega)] at o
    have e2 : ¬ nI (s 0) < nI (s 0) := nI_nlt (Nat.le_refl _) (by omega)
    have hp10 : p < 10 := by omega
    have e3 : nI p < nI 10 := nI_lt hp10 (by omega)
    have at_ : vM M (Hd (Dr s (s 0))) 100 p = nI (tf (Dr s (s 0) p)) := vM_at hp10
    have hD := Dr_le (s := s) (p := p) (s 0)
    rw [o, k80_46]
    unfold dist
    by_cases c : Dr s (s 0) p < 1000
    · have z : nI (Dr s (s 0) p) < nI 1000000 := nI_lt (by omega) (by omega)
      simp only [k80_47, k80_48, k80_51, k80_85, k80_86, k80_87, k80_90, k80_91, k80_94, k80_95, k80_98, k80_99, k80_100, k80_102, k80_105, k80_106, k80_109, k80_110, k80_111, k80_114, k80_116, iv_t99 hv, iv_r0 hv, iv_r1 hv, iv_t100 hv, iv_l100 hv, iw_t0 (iv_w hv), iw_t1 (iv_w hv), iw_l1 (iv_w hv), iw_r0 (iv_w hv), ig_t0 hg, ig_t1 hg, ig_t2 hg, ig_t3 hg, ig_t4 hg, ig_t5 hg, ig_t6 hg, ig_t7 hg, ig_t8 hg, ig_t9 hg, ig_t10 hg, ig_t11 hg, ig_t12 hg, ig_l1 hg, ig_l2 hg, ig_l3 hg, ig_l4 hg, ig_l5 hg, ig_l6 hg, ig_l7 hg, ig_l8 hg, ig_l9 hg, ig_l10 hg, ig_l12 hg, ig_r1 hg, ig_r2 hg, ig_r4 hg, ig_r5 hg, ig_r6 hg, ig_r7 hg, ig_r8 hg, ig_r9 hg, ig_r12 hg, ig_r14 hg, ig_r15 hg, ig_rw hg, rf_s, pushR_s, pushR_n, le4_0, le4_1, le4_2, le4_3, le4_4, isLong_n, isLong_i, isLong_r, isLong_f, if_true, if_false, not_true_eq_false, not_false_eq_true, isI_0, isI_9, isAr_0, isAr_1, isAr_2, isAr_9, okR_i, okR_0, okR_1, putI_0, putI_b0, putI_b1, nI_10, nI_00, Nat.reduceLT, Nat.reduceLeDiff, nI_add, upM_s, upI_s, pk_mul, nf_at, rg_pc (rN _), e2, e3, hp10, at_, tf, c, z]
    · have z : ¬ nI 1000000 < nI 1000000 := by decide
      simp only [k80_47, k80_48, k80_51, k80_85, k80_86, k80_87, k80_90, k80_91, k80_94, k80_95, k80_98, k80_99, k80_100, k80_102, k80_105, k80_106, k80_109, k80_110, k80_111, k80_114, k80_116, iv_t99 hv, iv_r0 hv, iv_r1 hv, iv_t100 hv, iv_l100 hv, iw_t0 (iv_w hv), iw_t1 (iv_w hv), iw_l1 (iv_w hv), iw_r0 (iv_w hv), ig_t0 hg, ig_t1 hg, ig_t2 hg, ig_t3 hg, ig_t4 hg, ig_t5 hg, ig_t6 hg, ig_t7 hg, ig_t8 hg, ig_t9 hg, ig_t10 hg, ig_t11 hg, ig_t12 hg, ig_l1 hg, ig_l2 hg, ig_l3 hg, ig_l4 hg, ig_l5 hg, ig_l6 hg, ig_l7 hg, ig_l8 hg, ig_l9 hg, ig_l10 hg, ig_l12 hg, ig_r1 hg, ig_r2 hg, ig_r4 hg, ig_r5 hg, ig_r6 hg, ig_r7 hg, ig_r8 hg, ig_r9 hg, ig_r12 hg, ig_r14 hg, ig_r15 hg, ig_rw hg, rf_s, pushR_s, pushR_n, le4_0, le4_1, le4_2, le4_3, le4_4, isLong_n, isLong_i, isLong_r, isLong_f, if_true, if_false, not_true_eq_false, not_false_eq_true, isI_0, isI_9, isAr_0, isAr_1, isAr_2, isAr_9, okR_i, okR_0, okR_1, putI_0, putI_b0, putI_b1, nI_10, nI_00, Nat.reduceLT, Nat.reduceLeDiff, nI_add, upM_s, upI_s, pk_mul, nf_at, rg_pc (rN _), e2, e3, hp10, at_, tf, c, z]
theorem c80n (hg : IsG σ g) (R : RG M g s) (i : Inv s) {v : Int32} (h : ¬ ∃ p, p < s 0 ∧ v = nI p) (Q : Po) : wp 80 0 [some (.ref 99), some (.ref g), some (.int v), none, none] [] σ M Q = Q (some (.int (-1000000004))) σ M := by
  have m38 := fun Q => c38n (Q := Q) hg R i h
  simp only [k80_0, k80_1, k80_2, k80_5, k80_8, k80_10, ig_t0 hg, ig_t1 hg, ig_t2 hg, ig_t3 hg, ig_t4 hg, ig_t5 hg, ig_t6 hg, ig_t7 hg, ig_t8 hg, ig_t9 hg, ig_t10 hg, ig_t11 hg, ig_t12 hg, ig_l1 hg, ig_l2 hg, ig_l3 hg, ig_l4 hg, ig_l5 hg, ig_l6 hg, ig_l7 hg, ig_l8 hg, ig_l9 hg, ig_l10 hg, ig_l12 hg, ig_r1 hg, ig_r2 hg, ig_r4 hg, ig_r5 hg, ig_r6 hg, ig_r7 hg, ig_r8 hg, ig_r9 hg, ig_r12 hg, ig_r14 hg, ig_r15 hg, ig_rw hg, rf_s, pushR_s, pushR_n, le4_0, le4_1, le4_2, le4_3, le4_4, isLong_n, isLong_i, isLong_r, isLong_f, if_true, if_false, not_true_eq_false, not_false_eq_true, isI_0, isI_9, isAr_0, isAr_1, isAr_2, isAr_9, okR_i, okR_0, okR_1, putI_0, putI_b0, putI_b1, nI_10, nI_00, Nat.reduceLT, Nat.reduceLeDiff, nI_add, upM_s, upI_s, pk_mul, nf_at, m38]
theorem c84 (hg : IsG σ g) (R : RG M g s) (i : Inv s) {k o : Nat} (hk : k < s 1) (ho : o < s 1) (Q : Po) : wp 84 0 [some (.ref g), some (.int (nI k)), some (.int (nI o))] [] σ M Q = Q (some (.int (nI (gtr s k o)))) σ M := by
  have g1 := i.1.2.1
  have pk := i.1.2.2 k hk
  have po := i.1.2.2 o ho
  unfold pOk at pk po
  have m1 := fun Q => c39y (Q := Q) hg R i hk
  have m2 := fun Q => c39y (Q := Q) hg R i ho
  have hk16 : k < 16 := by omega
  have ho16 : o < 16 := by omega
  have a3 := rg_trl R k hk16
  have b3 := rg_trl R o ho16
  have a2 := rg_len R k hk16
  have b2 := rg_len R o ho16
  by_cases c2 : s (30 + 6 * k + 3) = s (30 + 6 * o + 3)
  · rw [c2] at a3
    by_cases c3 : s (30 + 6 * k + 2) < s (30 + 6 * o + 2)
    · have e : gtr s k o = 1 := by unfold gtr; rw [if_neg (by omega), if_pos ⟨c2, c3⟩]
      have z : nI (s (30 + 6 * k + 2)) < nI (s (30 + 6 * o + 2)) := nI_lt c3 (by omega)
      rw [e]
      simp only [k84_0, k84_1, k84_2, k84_5, k84_8, k84_9, k84_10, k84_13, k84_16, k84_17, k84_18, k84_19, k84_22, k84_23, k84_24, k84_25, k84_28, k84_29, k84_30, k84_33, k84_34, k84_37, k84_38, k84_39, k84_40, k84_43, k84_44, k84_45, k84_48, k84_49, k84_52, k84_53, k84_54, k84_55, k84_58, k84_59, k84_60, k84_61, k84_64, k84_65, k84_66, k84_69, k84_70, k84_73, k84_74, ig_t0 hg, ig_t1 hg, ig_t2 hg, ig_t3 hg, ig_t4 hg, ig_t5 hg, ig_t6 hg, ig_t7 hg, ig_t8 hg, ig_t9 hg, ig_t10 hg, ig_t11 hg, ig_t12 hg, ig_l1 hg, ig_l2 hg, ig_l3 hg, ig_l4 hg, ig_l5 hg, ig_l6 hg, ig_l7 hg, ig_l8 hg, ig_l9 hg, ig_l10 hg, ig_l12 hg, ig_r1 hg, ig_r2 hg, ig_r4 hg, ig_r5 hg, ig_r6 hg, ig_r7 hg, ig_r8 hg, ig_r9 hg, ig_r12 hg, ig_r14 hg, ig_r15 hg, ig_rw hg, rf_s, pushR_s, pushR_n, le4_0, le4_1, le4_2, le4_3, le4_4, isLong_n, isLong_i, isLong_r, isLong_f, if_true, if_false, not_true_eq_false, not_false_eq_true, isI_0, isI_9, isAr_0, isAr_1, isAr_2, isAr_9, okR_i, okR_0, okR_1, putI_0, putI_b0, putI_b1, nI_10, nI_00, Nat.reduceLT, Nat.reduceLeDiff, nI_add, upM_s, upI_s, pk_mul, nf_at, m1, m2, hk16, ho16, a3, b3, a2, b2, z]
    · have e : gtr s k o = 0 := by unfold gtr; rw [if_neg (by omega), if_neg (fun h => c3 h.2)]
      have z : ¬ nI (s (30 + 6 * k + 2)) < nI (s (30 + 6 * o + 2)) := nI_nlt (by omega) (by omega)
      rw [e]
      simp only [k84_0, k84_1, k84_2, k84_5, k84_8, k84_9, k84_10, k84_13, k84_16, k84_17, k84_18, k84_19, k84_22, k84_23, k84_24, k84_25, k84_28, k84_29, k84_30, k84_33, k84_34, k84_37, k84_38, k84_39, k84_40, k84_43, k84_44, k84_45, k84_48, k84_49, k84_52, k84_53, k84_54, k84_55, k84_58, k84_59, k84_60, k84_61, k84_64, k84_65, k84_66, k84_69, k84_70, k84_73, k84_74, ig_t0 hg, ig_t1 hg, ig_t2 hg, ig_t3 hg, ig_t4 hg, ig_t5 hg, ig_t6 hg, ig_t7 hg, ig_t8 hg, ig_t9 hg, ig_t10 hg, ig_t11 hg, ig_t12 hg, ig_l1 hg, ig_l2 hg, ig_l3 hg, ig_l4 hg, ig_l5 hg, ig_l6 hg, ig_l7 hg, ig_l8 hg, ig_l9 hg, ig_l10 hg, ig_l12 hg, ig_r1 hg, ig_r2 hg, ig_r4 hg, ig_r5 hg, ig_r6 hg, ig_r7 hg, ig_r8 hg, ig_r9 hg, ig_r12 hg, ig_r14 hg, ig_r15 hg, ig_rw hg, rf_s, pushR_s, pushR_n, le4_0, le4_1, le4_2, le4_3, le4_4, isLong_n, isLong_i, isLong_r, isLong_f, if_true, if_false, not_true_eq_false, not_false_eq_true, isI_0, isI_9, isAr_0, isAr_1, isAr_2, isAr_9, okR_i, okR_0, okR_1, putI_0, putI_b0, putI_b1, nI_10, nI_00, Nat.reduceLT, Nat.reduceLeDiff, nI_add, upM_s, upI_s, pk_mul, nf_at, m1, m2, hk16, ho16, a3, b3, a2, b2, z]
  · have ne : ¬ nI (s (30 + 6 * k + 3)) = nI (s (30 + 6 * o + 3)) := ne_n (by omega) (by omega) c2
    by_cases c : s (30 + 6 * o + 3) < s (30 + 6 * k + 3)
    · have e : gtr s k o = 1 := by unfold gtr; rw [if_pos c]
      have z : nI (s (30 + 6 * o + 3)) < nI (s (30 + 6 * k + 3)) := nI_lt c (by omega)
      rw [e]
      simp only [k84_0, k84_1, k84_2, k84_5, k84_8, k84_9, k84_10, k84_13, k84_16, k84_17, k84_18, k84_19, k84_22, k84_23, k84_24, k84_25, k84_28, k84_29, k84_30, k84_33, k84_34, k84_37, k84_38, k84_39, k84_40, k84_43, k84_44, k84_45, k84_48, k84_49, k84_52, k84_53, k84_54, k84_55, k84_58, k84_59, k84_60, k84_61, k84_64, k84_65, k84_66, k84_69, k84_70, k84_73, k84_74, ig_t0 hg, ig_t1 hg, ig_t2 hg, ig_t3 hg, ig_t4 hg, ig_t5 hg, ig_t6 hg, ig_t7 hg, ig_t8 hg, ig_t9 hg, ig_t10 hg, ig_t11 hg, ig_t12 hg, ig_l1 hg, ig_l2 hg, ig_l3 hg, ig_l4 hg, ig_l5 hg, ig_l6 hg, ig_l7 hg, ig_l8 hg, ig_l9 hg, ig_l10 hg, ig_l12 hg, ig_r1 hg, ig_r2 hg, ig_r4 hg, ig_r5 hg, ig_r6 hg, ig_r7 hg, ig_r8 hg, ig_r9 hg, ig_r12 hg, ig_r14 hg, ig_r15 hg, ig_rw hg, rf_s, pushR_s, pushR_n, le4_0, le4_1, le4_2, le4_3, le4_4, isLong_n, isLong_i, isLong_r, isLong_f, if_true, if_false, not_true_eq_false, not_false_eq_true, isI_0, isI_9, isAr_0, isAr_1, isAr_2, isAr_9, okR_i, okR_0, okR_1, putI_0, putI_b0, putI_b1, nI_10, nI_00, Nat.reduceLT, Nat.reduceLeDiff, nI_add, upM_s, upI_s, pk_mul, nf_at, m1, m2, hk16, ho16, a3, b3, ne, z]
    · have e : gtr s k o = 0 := by unfold gtr; rw [if_neg c, if_neg (fun h => c2 h.1)]
      have z : ¬ nI (s (30 + 6 * o + 3)) < nI (s (30 + 6 * k + 3)) := nI_nlt (by omega) (by omega)
      rw [e]
      simp only [k84_0, k84_1, k84_2, k84_5, k84_8, k84_9, k84_10, k84_13, k84_16, k84_17, k84_18, k84_19, k84_22, k84_23, k84_24, k84_25, k84_28, k84_29, k84_30, k84_33, k84_34, k84_37, k84_38, k84_39, k84_40, k84_43, k84_44, k84_45, k84_48, k84_49, k84_52, k84_53, k84_54, k84_55, k84_58, k84_59, k84_60, k84_61, k84_64, k84_65, k84_66, k84_69, k84_70, k84_73, k84_74, ig_t0 hg, ig_t1 hg, ig_t2 hg, ig_t3 hg, ig_t4 hg, ig_t5 hg, ig_t6 hg, ig_t7 hg, ig_t8 hg, ig_t9 hg, ig_t10 hg, ig_t11 hg, ig_t12 hg, ig_l1 hg, ig_l2 hg, ig_l3 hg, ig_l4 hg, ig_l5 hg, ig_l6 hg, ig_l7 hg, ig_l8 hg, ig_l9 hg, ig_l10 hg, ig_l12 hg, ig_r1 hg, ig_r2 hg, ig_r4 hg, ig_r5 hg, ig_r6 hg, ig_r7 hg, ig_r8 hg, ig_r9 hg, ig_r12 hg, ig_r14 hg, ig_r15 hg, ig_rw hg, rf_s, pushR_s, pushR_n, le4_0, le4_1, le4_2, le4_3, le4_4, isLong_n, isLong_i, isLong_r, isLong_f, if_true, if_false, not_true_eq_false, not_false_eq_true, isI_0, isI_9, isAr_0, isAr_1, isAr_2, isAr_9, okR_i, okR_0, okR_1, putI_0, putI_b0, putI_b1, nI_10, nI_00, Nat.reduceLT, Nat.reduceLeDiff, nI_add, upM_s, upI_s, pk_mul, nf_at, m1, m2, hk16, ho16, a3, b3, ne, z]
theorem c83 (hv : IsV σ) (hg : IsG σ g) (R : RG M g s) (i : Inv s) {W : (Nat × Nat × Nat × Nat × (Nat → Nat))} (rv : RW M 101 W) (iw : IW s W) (Q : Po) : wp 83 0 [some (.ref 99), some (.ref g), none, none, none, none] [] σ M Q = Q (some (.int (fI (gp s (hr W) W.2.2.2.1 (s 1))))) σ M := by
  have g1 := i.1.2.1
  have g0 := i.1.1
  have m89 := fun Q => c89 (Q := Q) (iv_w hv) rv iw.1
  have hh : hr W < 10 := Nat.lt_of_lt_of_le (iw.2.2.1 _ (Nat.le_refl _)) g0
  have j5 := iw.2.2.2.2.1
  simp only [k83_0, k83_1, k83_4, k83_7, k83_8, k83_9, k83_10, k83_11, iv_t99 hv, iv_r0 hv, iv_r1 hv, iv_t100 hv, iv_l100 hv, iw_t0 (iv_w hv), iw_t1 (iv_w hv), iw_l1 (iv_w hv), iw_r0 (iv_w hv), rf_s, pushR_s, pushR_n, le4_0, le4_1, le4_2, le4_3, le4_4, isLong_n, isLong_i, isLong_r, isLong_f, if_true, if_false, not_true_eq_false, not_false_eq_true, isI_0, isI_9, isAr_0, isAr_1, isAr_2, isAr_9, okR_i, okR_0, okR_1, putI_0, putI_b0, putI_b1, nI_10, nI_00, Nat.reduceLT, Nat.reduceLeDiff, nI_add, upM_s, upI_s, pk_mul, nf_at, m89]
  refine (wp_up (n := s 1) (fun k => [some (.ref 99), some (.ref g), some (.int (nI (hr W))), some (.int (fI (gp s (hr W) W.2.2.2.1 k))), some (.int (nI k)), lastI (fun k => cg s (hr W) W.2.2.2.1 k) k]) (fun _ => M) Q (fun k hk => ?_)).trans ?_
  · have e : nI k < nI (s 1) := nI_lt hk (by omega)
    have h16 : k < 16 := by omega
    have hk16 : ¬ k = 16 := by omega
    have m46 := fun Q => c46 (Q := Q) hg R i hk hh
    have al := acr_le (p := hr W) i hk
    have m92 := fun Q => c92 (Q := Q) (iv_w hv) rv j5 al
    have ecg : (if acr s k (hr W) = 10 then 0 else 1 - bit W.2.2.2.1 (acr s k (hr W))) = cg s (hr W) W.2.2.2.1 k := rfl
    rw [ecg] at m92
    have hc := @cg_le s (hr W) W.2.2.2.1 k
    have ok := gp_ok (s := s) (h := hr W) (b := W.2.2.2.1) k (by omega)
    rw [k83_13]
    rcases (show cg s (hr W) W.2.2.2.1 k = 0 ∨ cg s (hr W) W.2.2.2.1 k = 1 by omega) with c | c
    · simp only [k83_15, k83_16, k83_19, k83_22, k83_23, k83_26, k83_27, k83_29, k83_30, k83_33, k83_36, k83_38, k83_40, k83_43, k83_44, k83_45, k83_48, k83_49, k83_51, k83_52, k83_55, k83_58, k83_60, k83_61, k83_64, iv_t99 hv, iv_r0 hv, iv_r1 hv, iv_t100 hv, iv_l100 hv, iw_t0 (iv_w hv), iw_t1 (iv_w hv), iw_l1 (iv_w hv), iw_r0 (iv_w hv), ig_t0 hg, ig_t1 hg, ig_t2 hg, ig_t3 hg, ig_t4 hg, ig_t5 hg, ig_t6 hg, ig_t7 hg, ig_t8 hg, ig_t9 hg, ig_t10 hg, ig_t11 hg, ig_t12 hg, ig_l1 hg, ig_l2 hg, ig_l3 hg, ig_l4 hg, ig_l5 hg, ig_l6 hg, ig_l7 hg, ig_l8 hg, ig_l9 hg, ig_l10 hg, ig_l12 hg, ig_r1 hg, ig_r2 hg, ig_r4 hg, ig_r5 hg, ig_r6 hg, ig_r7 hg, ig_r8 hg, ig_r9 hg, ig_r12 hg, ig_r14 hg, ig_r15 hg, ig_rw hg, rf_s, pushR_s, pushR_n, le4_0, le4_1, le4_2, le4_3, le4_4, isLong_n, isLong_i, isLong_r, isLong_f, if_true, if_false, not_true_eq_false, not_false_eq_true, isI_0, isI_9, isAr_0, isAr_1, isAr_2, isAr_9, okR_i, okR_0, okR_1, putI_0, putI_b0, putI_b1, nI_10, nI_00, Nat.reduceLT, Nat.reduceLeDiff, nI_add, upM_s, upI_s, pk_mul, nf_at, rg_nc R, e, m46, m92, c, gp, lastI, Nat.reduceEqDiff, false_and]
    · by_cases c2 : gp s (hr W) W.2.2.2.1 k = 16
      · simp only [k83_15, k83_16, k83_19, k83_22, k83_23, k83_26, k83_27, k83_29, k83_30, k83_33, k83_36, k83_38, k83_40, k83_43, k83_44, k83_45, k83_48, k83_49, k83_51, k83_52, k83_55, k83_58, k83_60, k83_61, k83_64, iv_t99 hv, iv_r0 hv, iv_r1 hv, iv_t100 hv, iv_l100 hv, iw_t0 (iv_w hv), iw_t1 (iv_w hv), iw_l1 (iv_w hv), iw_r0 (iv_w hv), ig_t0 hg, ig_t1 hg, ig_t2 hg, ig_t3 hg, ig_t4 hg, ig_t5 hg, ig_t6 hg, ig_t7 hg, ig_t8 hg, ig_t9 hg, ig_t10 hg, ig_t11 hg, ig_t12 hg, ig_l1 hg, ig_l2 hg, ig_l3 hg, ig_l4 hg, ig_l5 hg, ig_l6 hg, ig_l7 hg, ig_l8 hg, ig_l9 hg, ig_l10 hg, ig_l12 hg, ig_r1 hg, ig_r2 hg, ig_r4 hg, ig_r5 hg, ig_r6 hg, ig_r7 hg, ig_r8 hg, ig_r9 hg, ig_r12 hg, ig_r14 hg, ig_r15 hg, ig_rw hg, rf_s, pushR_s, pushR_n, le4_0, le4_1, le4_2, le4_3, le4_4, isLong_n, isLong_i, isLong_r, isLong_f, if_true, if_false, not_true_eq_false, not_false_eq_true, isI_0, isI_9, isAr_0, isAr_1, isAr_2, isAr_9, okR_i, okR_0, okR_1, putI_0, putI_b0, putI_b1, nI_10, nI_00, Nat.reduceLT, Nat.reduceLeDiff, nI_add, upM_s, upI_s, pk_mul, nf_at, rg_nc R, e, m46, m92, c, gp, lastI, c2, fI, true_and, true_or, hk16]
      · have lt : gp s (hr W) W.2.2.2.1 k < k := by rcases ok with h1 | h1; exact absurd h1 c2; exact h1.1
        have m84 := fun Q => c84 (Q := Q) hg R i hk (o := gp s (hr W) W.2.2.2.1 k) (by omega)
        have z : ¬ nI (gp s (hr W) W.2.2.2.1 k) = -1 := ne_m1 (by omega)
        have hg2 := @gtr_le s k (gp s (hr W) W.2.2.2.1 k)
        rcases (show gtr s k (gp s (hr W) W.2.2.2.1 k) = 0 ∨ gtr s k (gp s (hr W) W.2.2.2.1 k) = 1 by omega) with c3 | c3
        · simp only [k83_15, k83_16, k83_19, k83_22, k83_23, k83_26, k83_27, k83_29, k83_30, k83_33, k83_36, k83_38, k83_40, k83_43, k83_44, k83_45, k83_48, k83_49, k83_51, k83_52, k83_55, k83_58, k83_60, k83_61, k83_64, iv_t99 hv, iv_r0 hv, iv_r1 hv, iv_t100 hv, iv_l100 hv, iw_t0 (iv_w hv), iw_t1 (iv_w hv), iw_l1 (iv_w hv), iw_r0 (iv_w hv), ig_t0 hg, ig_t1 hg, ig_t2 hg, ig_t3 hg, ig_t4 hg, ig_t5 hg, ig_t6 hg, ig_t7 hg, ig_t8 hg, ig_t9 hg, ig_t10 hg, ig_t11 hg, ig_t12 hg, ig_l1 hg, ig_l2 hg, ig_l3 hg, ig_l4 hg, ig_l5 hg, ig_l6 hg, ig_l7 hg, ig_l8 hg, ig_l9 hg, ig_l10 hg, ig_l12 hg, ig_r1 hg, ig_r2 hg, ig_r4 hg, ig_r5 hg, ig_r6 hg, ig_r7 hg, ig_r8 hg, ig_r9 hg, ig_r12 hg, ig_r14 hg, ig_r15 hg, ig_rw hg, rf_s, pushR_s, pushR_n, le4_0, le4_1, le4_2, le4_3, le4_4, isLong_n, isLong_i, isLong_r, isLong_f, if_true, if_false, not_true_eq_false, not_false_eq_true, isI_0, isI_9, isAr_0, isAr_1, isAr_2, isAr_9, okR_i, okR_0, okR_1, putI_0, putI_b0, putI_b1, nI_10, nI_00, Nat.reduceLT, Nat.reduceLeDiff, nI_add, upM_s, upI_s, pk_mul, nf_at, rg_nc R, e, m46, m92, c, gp, lastI, c2, fI, true_and, false_or, m84, z, c3, hk16, Nat.reduceEqDiff]
        · simp only [k83_15, k83_16, k83_19, k83_22, k83_23, k83_26, k83_27, k83_29, k83_30, k83_33, k83_36, k83_38, k83_40, k83_43, k83_44, k83_45, k83_48, k83_49, k83_51, k83_52, k83_55, k83_58, k83_60, k83_61, k83_64, iv_t99 hv, iv_r0 hv, iv_r1 hv, iv_t100 hv, iv_l100 hv, iw_t0 (iv_w hv), iw_t1 (iv_w hv), iw_l1 (iv_w hv), iw_r0 (iv_w hv), ig_t0 hg, ig_t1 hg, ig_t2 hg, ig_t3 hg, ig_t4 hg, ig_t5 hg, ig_t6 hg, ig_t7 hg, ig_t8 hg, ig_t9 hg, ig_t10 hg, ig_t11 hg, ig_t12 hg, ig_l1 hg, ig_l2 hg, ig_l3 hg, ig_l4 hg, ig_l5 hg, ig_l6 hg, ig_l7 hg, ig_l8 hg, ig_l9 hg, ig_l10 hg, ig_l12 hg, ig_r1 hg, ig_r2 hg, ig_r4 hg, ig_r5 hg, ig_r6 hg, ig_r7 hg, ig_r8 hg, ig_r9 hg, ig_r12 hg, ig_r14 hg, ig_r15 hg, ig_rw hg, rf_s, pushR_s, pushR_n, le4_0, le4_1, le4_2, le4_3, le4_4, isLong_n, isLong_i, isLong_r, isLong_f, if_true, if_false, not_true_eq_false, not_false_eq_true, isI_0, isI_9, isAr_0, isAr_1, isAr_2, isAr_9, okR_i, okR_0, okR_1, putI_0, putI_b0, putI_b1, nI_10, nI_00, Nat.reduceLT, Nat.reduceLeDiff, nI_add, upM_s, upI_s, pk_mul, nf_at, rg_nc R, e, m46, m92, c, gp, lastI, c2, fI, true_and, false_or, m84, z, c3, hk16, Nat.reduceEqDiff]
  · have e : ¬ nI (s 1) < nI (s 1) := nI_nlt (Nat.le_refl _) (by omega)
    rw [k83_13]
    simp only [k83_15, k83_16, k83_19, k83_67, k83_68, iv_t99 hv, iv_r0 hv, iv_r1 hv, iv_t100 hv, iv_l100 hv, iw_t0 (iv_w hv), iw_t1 (iv_w hv), iw_l1 (iv_w hv), iw_r0 (iv_w hv), ig_t0 hg, ig_t1 hg, ig_t2 hg, ig_t3 hg, ig_t4 hg, ig_t5 hg, ig_t6 hg, ig_t7 hg, ig_t8 hg, ig_t9 hg, ig_t10 hg, ig_t11 hg, ig_t12 hg, ig_l1 hg, ig_l2 hg, ig_l3 hg, ig_l4 hg, ig_l5 hg, ig_l6 hg, ig_l7 hg, ig_l8 hg, ig_l9 hg, ig_l10 hg, ig_l12 hg, ig_r1 hg, ig_r2 hg, ig_r4 hg, ig_r5 hg, ig_r6 hg, ig_r7 hg, ig_r8 hg, ig_r9 hg, ig_r12 hg, ig_r14 hg, ig_r15 hg, ig_rw hg, rf_s, pushR_s, pushR_n, le4_0, le4_1, le4_2, le4_3, le4_4, isLong_n, isLong_i, isLong_r, isLong_f, if_true, if_false, not_true_eq_false, not_false_eq_true, isI_0, isI_9, isAr_0, isAr_1, isAr_2, isAr_9, okR_i, okR_0, okR_1, putI_0, putI_b0, putI_b1, nI_10, nI_00, Nat.reduceLT, Nat.reduceLeDiff, nI_add, upM_s, upI_s, pk_mul, nf_at, rg_nc R, e]
theorem c82L (hv : IsV σ) (hg : IsG σ g) (dg : g + 12 < 94) (i : Inv s) : ∀ (n : Nat) (W : (Nat × Nat × Nat × Nat × (Nat → Nat))) (M : Mem) (l3 : Option Value), W.2.1 + n = 10 → IW s W → RW M 101 W → RG M g s → ∃ M', (∀ Q, wp 82 9 [some (.ref 99), some (.ref g), some (.int (nI W.2.1)), l3] [] σ M Q = Q none σ M') ∧ RW M' 101 (gwalk s n W) ∧ ∀ o, o ≠ 101 → o ≠ 102 → M' o = M o
  | 0, W, M, l3, hn, iw, _, _ => by have := iw.1; omega
  | n + 1, W, M, l3, hn, iw, rv, R => by
    have G := i.1
    have g0 := G.1
    have g1 := G.2.1
    have hh : hr W < 10 := Nat.lt_of_lt_of_le (iw.2.2.1 W.2.1 (Nat.le_refl _)) g0
    have m89 := fun Q => c89 (Q := Q) (iv_w hv) rv iw.1
    have stl : nI W.2.1 < nI 10 := nI_lt (by have := iw.1; omega) (by omega)
    have f7 := i.2.2.1.2.1
    have m83 := fun Q => c83 (Q := Q) hv hg R i rv iw
    unfold gwalk
    by_cases c1 : hr W = s 7
    · rw [if_pos c1]
      refine ⟨M, fun Q => ?_, rv, fun _ _ _ => rfl⟩
      have z : nI (hr W) = nI (s 7) := by rw [c1]
      rw [k82_9]
      simp only [k82_10, k82_12, k82_15, k82_16, k82_19, k82_22, k82_23, k82_26, k82_72, iv_t99 hv, iv_r0 hv, iv_r1 hv, iv_t100 hv, iv_l100 hv, iw_t0 (iv_w hv), iw_t1 (iv_w hv), iw_l1 (iv_w hv), iw_r0 (iv_w hv), ig_t0 hg, ig_t1 hg, ig_t2 hg, ig_t3 hg, ig_t4 hg, ig_t5 hg, ig_t6 hg, ig_t7 hg, ig_t8 hg, ig_t9 hg, ig_t10 hg, ig_t11 hg, ig_t12 hg, ig_l1 hg, ig_l2 hg, ig_l3 hg, ig_l4 hg, ig_l5 hg, ig_l6 hg, ig_l7 hg, ig_l8 hg, ig_l9 hg, ig_l10 hg, ig_l12 hg, ig_r1 hg, ig_r2 hg, ig_r4 hg, ig_r5 hg, ig_r6 hg, ig_r7 hg, ig_r8 hg, ig_r9 hg, ig_r12 hg, ig_r14 hg, ig_r15 hg, ig_rw hg, rf_s, pushR_s, pushR_n, le4_0, le4_1, le4_2, le4_3, le4_4, isLong_n, isLong_i, isLong_r, isLong_f, if_true, if_false, not_true_eq_false, not_false_eq_true, isI_0, isI_9, isAr_0, isAr_1, isAr_2, isAr_9, okR_i, okR_0, okR_1, putI_0, putI_b0, putI_b1, nI_10, nI_00, Nat.reduceLT, Nat.reduceLeDiff, nI_add, upM_s, upI_s, pk_mul, nf_at, stl, m89, rg_food R, z]
    · rw [if_neg c1]
      have z7 : ¬ nI (hr W) = nI (s 7) := ne_n (by omega) (by omega) c1
      by_cases c2 : gp s (hr W) W.2.2.2.1 (s 1) = 16
      · rw [if_pos c2]
        rw [c2] at m83
        have f16 : fI 16 = -1 := if_pos rfl
        refine ⟨M, fun Q => ?_, rv, fun _ _ _ => rfl⟩
        rw [k82_9]
        simp only [k82_10, k82_12, k82_15, k82_16, k82_19, k82_22, k82_23, k82_26, k82_29, k82_30, k82_31, k82_34, k82_35, k82_36, k82_37, k82_40, iv_t99 hv, iv_r0 hv, iv_r1 hv, iv_t100 hv, iv_l100 hv, iw_t0 (iv_w hv), iw_t1 (iv_w hv), iw_l1 (iv_w hv), iw_r0 (iv_w hv), ig_t0 hg, ig_t1 hg, ig_t2 hg, ig_t3 hg, ig_t4 hg, ig_t5 hg, ig_t6 hg, ig_t7 hg, ig_t8 hg, ig_t9 hg, ig_t10 hg, ig_t11 hg, ig_t12 hg, ig_l1 hg, ig_l2 hg, ig_l3 hg, ig_l4 hg, ig_l5 hg, ig_l6 hg, ig_l7 hg, ig_l8 hg, ig_l9 hg, ig_l10 hg, ig_l12 hg, ig_r1 hg, ig_r2 hg, ig_r4 hg, ig_r5 hg, ig_r6 hg, ig_r7 hg, ig_r8 hg, ig_r9 hg, ig_r12 hg, ig_r14 hg, ig_r15 hg, ig_rw hg, rf_s, pushR_s, pushR_n, le4_0, le4_1, le4_2, le4_3, le4_4, isLong_n, isLong_i, isLong_r, isLong_f, if_true, if_false, not_true_eq_false, not_false_eq_true, isI_0, isI_9, isAr_0, isAr_1, isAr_2, isAr_9, okR_i, okR_0, okR_1, putI_0, putI_b0, putI_b1, nI_10, nI_00, Nat.reduceLT, Nat.reduceLeDiff, nI_add, upM_s, upI_s, pk_mul, nf_at, stl, m89, rg_food R, z7, m83, f16]
      · rw [if_neg c2]
        rcases gp_ok (s := s) (h := hr W) (b := W.2.2.2.1) (s 1) G.2.1 with h | ⟨p1, p2⟩
        · exact absurd h c2
        · have fk : fI (gp s (hr W) W.2.2.2.1 (s 1)) = nI (gp s (hr W) W.2.2.2.1 (s 1)) := if_neg c2
          rw [fk] at m83
          generalize gp s (hr W) W.2.2.2.1 (s 1) = k at *
          have z : ¬ nI k = -1 := ne_m1 (by omega)
          obtain ⟨w9, ia⟩ := IW_adv G iw p1 p2
          obtain ⟨a1, a2, a3, a4⟩ := cg_1 G p1 p2
          have m46 := fun Q => c46 (Q := Q) hg R i p1 hh
          rw [eI_lt (by omega)] at m46
          have m44 := fun Q => c44 (Q := Q) hg R i p1
          obtain ⟨M3, b1, b2, b3⟩ := c87 (iv_w hv) rv w9 (k := k) (t := acr s k (hr W)) (l := s (30 + 6 * k + 2)) (by omega) (by omega)
          have b2' : RW M3 101 (adv s W k) := b2
          have r3 : RG M3 g s := RG_o R i.2.2.2.2.2 (fun o h1 h2 => b3 o (by omega) (by omega))
          obtain ⟨M', q1, q2, q3⟩ := c82L hv hg dg i n (adv s W k) M3 (some (.int (nI k))) (by show W.2.1 + 1 + n = 10; omega) ia b2' r3
          refine ⟨M', fun Q => ?_, q2, fun o h1 h2 => by rw [q3 o h1 h2, b3 o h1 h2]⟩
          refine Eq.trans ?_ (q1 Q)
          rw [k82_9]
          simp only [k82_10, k82_12, k82_15, k82_16, k82_19, k82_22, k82_23, k82_26, k82_29, k82_30, k82_31, k82_34, k82_35, k82_36, k82_37, k82_40, k82_41, k82_42, k82_45, k82_46, k82_47, k82_48, k82_49, k82_52, k82_55, k82_58, k82_59, k82_60, k82_63, k82_66, k82_69, iv_t99 hv, iv_r0 hv, iv_r1 hv, iv_t100 hv, iv_l100 hv, iw_t0 (iv_w hv), iw_t1 (iv_w hv), iw_l1 (iv_w hv), iw_r0 (iv_w hv), ig_t0 hg, ig_t1 hg, ig_t2 hg, ig_t3 hg, ig_t4 hg, ig_t5 hg, ig_t6 hg, ig_t7 hg, ig_t8 hg, ig_t9 hg, ig_t10 hg, ig_t11 hg, ig_t12 hg, ig_l1 hg, ig_l2 hg, ig_l3 hg, ig_l4 hg, ig_l5 hg, ig_l6 hg, ig_l7 hg, ig_l8 hg, ig_l9 hg, ig_l10 hg, ig_l12 hg, ig_r1 hg, ig_r2 hg, ig_r4 hg, ig_r5 hg, ig_r6 hg, ig_r7 hg, ig_r8 hg, ig_r9 hg, ig_r12 hg, ig_r14 hg, ig_r15 hg, ig_rw hg, rf_s, pushR_s, pushR_n, le4_0, le4_1, le4_2, le4_3, le4_4, isLong_n, isLong_i, isLong_r, isLong_f, if_true, if_false, not_true_eq_false, not_false_eq_true, isI_0, isI_9, isAr_0, isAr_1, isAr_2, isAr_9, okR_i, okR_0, okR_1, putI_0, putI_b0, putI_b1, nI_10, nI_00, Nat.reduceLT, Nat.reduceLeDiff, nI_add, upM_s, upI_s, pk_mul, nf_at, stl, m89, rg_food R, z7, m83, z, m46, m44, b1]
          rfl
theorem c82 (hv : IsV σ) (hg : IsG σ g) (dg : g + 12 < 94) (i : Inv s) (h2 : 0 < s 0) {V : (Nat × Nat × Nat × Nat × (Nat → Nat))} (rv : RW M 101 V) (R : RG M g s) : ∃ M', (∀ Q, wp 82 0 [some (.ref 99), some (.ref g), none, none] [] σ M Q = Q none σ M') ∧ RW M' 101 (gW s) ∧ ∀ o, o ≠ 101 → o ≠ 102 → M' o = M o := by
  obtain ⟨N, a1, a2, a3⟩ := c86 (iv_w hv) rv.2.2.2.2.1
  have rN : RG N g s := RG_o R i.2.2.2.2.2 (fun o h1 h2 => a3 o (by omega))
  obtain ⟨M', q1, q2, q3⟩ := c82L hv hg dg i 10 W0 N none rfl (IW_0 h2) a2 rN
  refine ⟨M', fun Q => ?_, q2, fun o h1 h2 => by rw [q3 o h1 h2, a3 o h1]⟩
  refine Eq.trans ?_ (q1 Q)
  simp only [k82_0, k82_1, k82_4, k82_7, k82_8, iv_t99 hv, iv_r0 hv, iv_r1 hv, iv_t100 hv, iv_l100 hv, iw_t0 (iv_w hv), iw_t1 (iv_w hv), iw_l1 (iv_w hv), iw_r0 (iv_w hv), rf_s, pushR_s, pushR_n, le4_0, le4_1, le4_2, le4_3, le4_4, isLong_n, isLong_i, isLong_r, isLong_f, if_true, if_false, not_true_eq_false, not_false_eq_true, isI_0, isI_9, isAr_0, isAr_1, isAr_2, isAr_9, okR_i, okR_0, okR_1, putI_0, putI_b0, putI_b1, nI_10, nI_00, Nat.reduceLT, Nat.reduceLeDiff, nI_add, upM_s, upI_s, pk_mul, nf_at, a1]
  rfl
end SUR
