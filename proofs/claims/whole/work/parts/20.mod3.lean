/-! a way: how long, how many paths, their set, the set of the places, the places -/
def hr (W : (Nat × Nat × Nat × Nat × (Nat → Nat))) : Nat := W.2.2.2.2 W.2.1
def W0 : (Nat × Nat × Nat × Nat × (Nat → Nat)) := (0, 0, 0, 1, fun _ => 0)
def adv (s : Nat → Nat) (W : (Nat × Nat × Nat × Nat × (Nat → Nat))) (k : Nat) : (Nat × Nat × Nat × Nat × (Nat → Nat)) := (W.1 + s (30 + 6 * k + 2), W.2.1 + 1, W.2.2.1 ||| 2 ^ k, W.2.2.2.1 ||| 2 ^ acr s k (hr W), upN W.2.2.2.2 (W.2.1 + 1) (acr s k (hr W)))
def RV (M : Mem) (W : (Nat × Nat × Nat × Nat × (Nat → Nat))) : Prop := M 106 8 = nI (hr W) ∧ M 106 9 = nI W.1 ∧ M 106 10 = nI W.2.1 ∧ M 106 11 = nI W.2.2.1 ∧ M 106 12 = nI W.2.2.2.1 ∧ ∀ i, i ≤ W.2.1 → M 113 i = nI (W.2.2.2.2 i)
theorem m111 {σ : Sg} {M : Mem} (hm : IsM σ) : ∃ M', (∀ Q, wp 111 0 [some (.ref 106)] [] σ M Q = Q none σ M') ∧ RV M' W0 ∧ M' 106 13 = nI 0 ∧ (∀ o, o ≠ 106 → o ≠ 113 → M' o = M o) ∧ (∀ i, i < 8 ∨ 13 < i → M' 106 i = M 106 i) := by
  refine ⟨?_, fun Q => ?_, ?_⟩
  rotate_left
  · simp only [k111_0, k111_1, k111_2, k111_5, k111_6, k111_7, k111_10, k111_11, k111_12, k111_15, k111_16, k111_17, k111_20, k111_21, k111_22, k111_25, k111_26, k111_27, k111_30, k111_31, k111_34, k111_35, k111_36, k111_37, im_t106 hm, im_t107 hm, im_t108 hm, im_t109 hm, im_t110 hm, im_t111 hm, im_t112 hm, im_t113 hm, im_t114 hm, im_t115 hm, im_t116 hm, im_l107 hm, im_l108 hm, im_l109 hm, im_l110 hm, im_l111 hm, im_l112 hm, im_l113 hm, im_l114 hm, im_l115 hm, im_l116 hm, im_r0 hm, im_r1 hm, im_r2 hm, im_r3 hm, im_r5 hm, im_r7 hm, im_r14 hm, im_r15 hm, im_r16 hm, im_r22 hm, rf_s, pushR_s, pushR_n, le4_0, le4_1, le4_2, le4_3, le4_4, isLong_n, isLong_i, isLong_r, isLong_f, if_true, if_false, not_true_eq_false, not_false_eq_true, isI_0, isI_9, isAr_0, isAr_1, isAr_2, isAr_9, okR_i, okR_0, okR_1, putI_0, putI_b0, putI_b1, nI_10, nI_00, Nat.reduceLT, Nat.reduceLeDiff, nI_add, upM_s, upI_s, pk_mul, nf_at]
    rfl
  · refine ⟨⟨?_, ?_, ?_, ?_, ?_, ?_⟩, ?_, ?_, ?_⟩
    · simp [upM, upI, hr, W0]
    · simp [upM, upI, W0]
    · simp [upM, upI, W0]
    · simp [upM, upI, W0]
    · simp [upM, upI, W0]
    · intro i hi
      have : i = 0 := Nat.le_zero.1 hi
      subst this
      simp [upM, upI, W0]
    · simp [upM, upI]
    · intro o h1 h2
      simp [upM, h1, h2]
    · intro i h
      simp [upM, upI, show i ≠ 8 by omega, show i ≠ 9 by omega, show i ≠ 10 by omega, show i ≠ 11 by omega, show i ≠ 12 by omega, show i ≠ 13 by omega]
theorem m113 {σ : Sg} {M : Mem} (hm : IsM σ) {s : Nat → Nat} (hs : M 107 = nf s) (g : Gph s) {W : (Nat × Nat × Nat × Nat × (Nat → Nat))} (hv : RV M W) {k : Nat} (hk : k < s 1) (hh : hr W < 10) (ha : acr s k (hr W) < 10) (hn : W.2.1 < 9) : ∃ M', (∀ Q, wp 113 0 [some (.ref 106), some (.int (nI k))] [] σ M Q = Q none σ M') ∧ RV M' (adv s W k) ∧ (∀ o, o ≠ 106 → o ≠ 113 → M' o = M o) ∧ (∀ i, i < 8 ∨ 12 < i → M' 106 i = M 106 i) := by
  obtain ⟨v1, v2, v3, v4, v5, v6⟩ := hv
  obtain ⟨e0, e1⟩ := pOk10 g hk
  have g1 := g.2.1
  have m2 : ∀ {M : Mem} (hs : M 107 = nf s) Q, wp 105 0 [some (.ref 106), some (.int (nI k)), some (.int (nI (hr W)))] [] σ M Q = Q (some (.int (eI (oth s k (hr W))))) σ M := fun hs Q => m105 (Q := Q) hm hs (k := k) (by omega) e0 e1 hh
  have m3 : ∀ (M : Mem) Q, wp 102 0 [some (.ref 106), some (.int (nI k)), some (.int (nI 2))] [] σ M Q = Q (some (.int (M 107 (30 + 6 * k + 2)))) σ M := fun M Q => m102 (M := M) (Q := Q) hm (k := k) (w := 2) (by omega) (by omega)
  have ho : oth s k (hr W) = acr s k (hr W) := by
    unfold acr at ha ⊢
    by_cases c : s (30 + 6 * k + 4) = 1
    · rw [if_pos c] at ha; omega
    · rw [if_neg c]
  have h1 := or_set (b := W.2.2.2.1) (t := acr s k (hr W)) (by omega)
  have h2 := or_set (b := W.2.2.1) (t := k) (by omega)
  have h3 : W.2.1 + 1 < 10 := by omega
  have u1 : ∀ (f : Nat → Int32), upM M 106 f 107 = nf s := fun f => hs
  have u2 : ∀ (f : Nat → Int32) , upM M 106 f 113 = M 113 := fun f => rfl
  have n1 : ∀ (f : Nat → Int32) x, upI f 8 x 9 = f 9 := fun f x => rfl
  have n2 : ∀ (f : Nat → Int32) x, upI f 8 x 10 = f 10 := fun f x => rfl
  have n3 : ∀ (f : Nat → Int32) x, upI f 8 x 11 = f 11 := fun f x => rfl
  have n4 : ∀ (f : Nat → Int32) x, upI f 8 x 12 = f 12 := fun f x => rfl
  have n5 : ∀ (f : Nat → Int32) x, upI f 12 x 11 = f 11 := fun f x => rfl
  have n6 : ∀ (f : Nat → Int32) x, upI f 12 x 10 = f 10 := fun f x => rfl
  have n7 : ∀ (f : Nat → Int32) x, upI f 12 x 9 = f 9 := fun f x => rfl
  have n8 : ∀ (f : Nat → Int32) x, upI f 12 x 8 = f 8 := fun f x => rfl
  have n9 : ∀ (f : Nat → Int32) x, upI f 11 x 10 = f 10 := fun f x => rfl
  have n10 : ∀ (f : Nat → Int32) x, upI f 11 x 9 = f 9 := fun f x => rfl
  have n11 : ∀ (f : Nat → Int32) x, upI f 11 x 8 = f 8 := fun f x => rfl
  have n12 : ∀ (f : Nat → Int32) x, upI f 9 x 10 = f 10 := fun f x => rfl
  have n13 : ∀ (f : Nat → Int32) x, upI f 9 x 8 = f 8 := fun f x => rfl
  have n14 : ∀ (f : Nat → Int32) x, upI f 10 x 8 = f 8 := fun f x => rfl
  refine ⟨?_, fun Q => ?_, ?_⟩
  rotate_left
  · simp only [k113_0, k113_1, k113_2, k113_3, k113_4, k113_7, k113_10, k113_13, k113_14i, k113_14r, k113_14f, k113_15, k113_18, k113_19, k113_20, k113_23, k113_24, k113_25, k113_28, k113_29i, k113_29r, k113_29f, k113_30, k113_33, k113_34, k113_35, k113_36, k113_37, k113_40, k113_41i, k113_41r, k113_41f, k113_42, k113_45, k113_46, k113_47, k113_48, k113_51, k113_52, k113_55, k113_56i, k113_56r, k113_56f, k113_57, k113_60, k113_61, k113_62, k113_65, k113_66, k113_69, k113_70, k113_73, k113_74, k113_77, k113_78, im_t106 hm, im_t107 hm, im_t108 hm, im_t109 hm, im_t110 hm, im_t111 hm, im_t112 hm, im_t113 hm, im_t114 hm, im_t115 hm, im_t116 hm, im_l107 hm, im_l108 hm, im_l109 hm, im_l110 hm, im_l111 hm, im_l112 hm, im_l113 hm, im_l114 hm, im_l115 hm, im_l116 hm, im_r0 hm, im_r1 hm, im_r2 hm, im_r3 hm, im_r5 hm, im_r7 hm, im_r14 hm, im_r15 hm, im_r16 hm, im_r22 hm, rf_s, pushR_s, pushR_n, le4_0, le4_1, le4_2, le4_3, le4_4, isLong_n, isLong_i, isLong_r, isLong_f, if_true, if_false, not_true_eq_false, not_false_eq_true, isI_0, isI_9, isAr_0, isAr_1, isAr_2, isAr_9, okR_i, okR_0, okR_1, putI_0, putI_b0, putI_b1, nI_10, nI_00, Nat.reduceLT, Nat.reduceLeDiff, nI_add, upM_s, upI_s, pk_mul, nf_at, hs, v1, m2 hs, ho, eI_lt ha, v2, v3, v4, v5, u1, u2, n1, n2, n3, n4, n5, n6, n7, n8, n9, n10, n11, n12, n13, n14, h1, h2, m3, h3]
    rfl
  · refine ⟨⟨?_, ?_, ?_, ?_, ?_, ?_⟩, ?_, ?_⟩
    · simp [upM, upI, adv, hr, upN]
    · simp [upM, upI, adv, hs, nf, nI_add]
    · simp [upM, upI, adv]
    · simp [upM, upI, adv]
    · simp [upM, upI, adv]
    · intro i hi
      by_cases c : i = W.2.1 + 1
      · subst c
        simp [upM, upI, adv, upN]
      · have : i ≤ W.2.1 := by simp only [adv] at hi; omega
        simp [upM, upI, adv, upN, c, v6 i this]
    · intro o h1 h2
      simp [upM, h1, h2]
    · intro i h
      simp [upM, upI, show i ≠ 8 by omega, show i ≠ 9 by omega, show i ≠ 10 by omega, show i ≠ 11 by omega, show i ≠ 12 by omega]
/-! the drawing of a path -/
def sm (s : Nat → Nat) (h b : Nat) : Nat := sumTo (aw s h b) (s 1)
def nx (x : Nat) : Nat := x * 16807 % 2147483647
def pick (f : Nat → Nat) (d : Nat) : Nat → Nat
  | 0 => 0
  | n + 1 => if sumTo f n ≤ d then n else pick f d n
theorem pick_spec {f : Nat → Nat} {d : Nat} : ∀ {n : Nat}, d < sumTo f n → pick f d n < n ∧ sumTo f (pick f d n) ≤ d ∧ d < sumTo f (pick f d n + 1)
  | 0, h => absurd h (Nat.not_lt_zero _)
  | n + 1, h => by
    unfold pick
    by_cases c : sumTo f n ≤ d
    · rw [if_pos c]; exact ⟨Nat.lt_succ_self _, c, h⟩
    · rw [if_neg c]
      have ih := pick_spec (f := f) (d := d) (n := n) (by omega)
      exact ⟨by omega, ih.2⟩
theorem sumTo_mono {f : Nat → Nat} : ∀ {a b : Nat}, a ≤ b → sumTo f a ≤ sumTo f b
  | a, 0, h => by rw [Nat.le_zero.1 h]; exact Nat.le_refl _
  | a, b + 1, h => by
    by_cases c : a = b + 1
    · rw [c]; exact Nat.le_refl _
    · have := sumTo_mono (f := f) (a := a) (b := b) (by omega)
      simp only [sumTo]
      omega
/-- the same places and paths -/
def Eqg (s s' : Nat → Nat) : Prop := s' 0 = s 0 ∧ s' 1 = s 1 ∧ ∀ k w, w < 5 → k < 16 → s' (30 + 6 * k + w) = s (30 + 6 * k + w)
theorem eqg_Gph {s s' : Nat → Nat} (e : Eqg s s') (g : Gph s) : Gph s' := by
  obtain ⟨e0, e1, e2⟩ := e
  obtain ⟨g0, g1, g2⟩ := g
  refine ⟨by omega, by omega, fun k hk => ?_⟩
  have h := g2 k (by omega)
  unfold pOk at h ⊢
  rw [e0, e2 k 0 (by omega) (by omega), e2 k 1 (by omega) (by omega), e2 k 2 (by omega) (by omega), e2 k 3 (by omega) (by omega), e2 k 4 (by omega) (by omega)]
  exact h
theorem eqg_acr {s s' : Nat → Nat} (e : Eqg s s') {k p : Nat} (hk : k < 16) : acr s' k p = acr s k p := by
  obtain ⟨e0, e1, e2⟩ := e
  unfold acr oth
  rw [e2 k 0 (by omega) (by omega), e2 k 1 (by omega) (by omega), e2 k 4 (by omega) (by omega)]
theorem eqg_wt {s s' : Nat → Nat} (e : Eqg s s') {k : Nat} (hk : k < 16) : wt s' k = wt s k := by
  obtain ⟨e0, e1, e2⟩ := e
  unfold wt
  rw [e2 k 2 (by omega) (by omega), e2 k 3 (by omega) (by omega)]
theorem eqg_cg {s s' : Nat → Nat} (e : Eqg s s') {h b k : Nat} (hk : k < 16) : cg s' h b k = cg s h b k := by
  unfold cg
  rw [eqg_acr e hk]
theorem eqg_aw {s s' : Nat → Nat} (e : Eqg s s') {h b k : Nat} (hk : k < 16) : aw s' h b k = aw s h b k := by
  unfold aw
  rw [eqg_cg e hk, eqg_wt e hk]
theorem eqg_8 {s : Nat → Nat} {x : Nat} : Eqg s (upN s 8 x) := ⟨upN_n (by omega), upN_n (by omega), fun k w _ _ => upN_n (by omega)⟩
theorem aw_le {s : Nat → Nat} {h b k : Nat} (p : pOk s k) : aw s h b k ≤ 199981 := by
  unfold aw
  have := wt_le p
  split <;> omega
theorem sm_le {s : Nat → Nat} {h b : Nat} (g : Gph s) {n : Nat} (hn : n ≤ s 1) : sumTo (aw s h b) n ≤ 3199696 := by
  have h1 := sumTo_le (f := aw s h b) (c := 199981) (n := n) (fun k hk => aw_le (g.2.2 k (by omega)))
  have h2 : n * 199981 ≤ 16 * 199981 := Nat.mul_le_mul_right _ (by have := g.2.1; omega)
  omega
def lastI (f : Nat → Nat) : Nat → Option Value
  | 0 => none
  | k + 1 => some (.int (nI (f k)))
/-- the weight of a path if it can be taken, as both loops reckon it -/
theorem m114z {σ : Sg} {M : Mem} (hm : IsM σ) {s : Nat → Nat} (hs : M 107 = nf s) (g : Gph s) {h b : Nat} (hh : h < 10) (hb : b < 1024) (r1 : M 106 8 = nI h) (r2 : M 106 12 = nI b) (Q : Po) : wp 114 0 [some (.ref 106), none, none, none, none, none, none, none] [] σ M Q = wp 114 40 [some (.ref 106), some (.int (nI (sm s h b))), some (.int (nI (s 1))), none, none, none, none, none] [] σ M Q := by
  have g1 := g.2.1
  simp only [k114_0, k114_1, k114_2, k114_3, rf_s, pushR_s, pushR_n, le4_0, le4_1, le4_2, le4_3, le4_4, isLong_n, isLong_i, isLong_r, isLong_f, if_true, if_false, not_true_eq_false, not_false_eq_true, isI_0, isI_9, isAr_0, isAr_1, isAr_2, isAr_9, okR_i, okR_0, okR_1, putI_0, putI_b0, putI_b1, nI_10, nI_00, Nat.reduceLT, Nat.reduceLeDiff, nI_add, upM_s, upI_s, pk_mul, nf_at]
  refine (wp_up (n := s 1) (fun k => [some (.ref 106), some (.int (nI (sumTo (aw s h b) k))), some (.int (nI k)), none, none, none, none, none]) (fun _ => M) Q (fun k hk => ?_)).trans ?_
  · have e : nI k < nI (s 1) := nI_lt hk (by omega)
    have m := fun Q => m112 (Q := Q) hm hs g hk hh hb r1 r2
    have m2 := fun Q => m106 (Q := Q) hm hs (k := k) (by omega) (g.2.2 k hk)
    have hc := @cg_le s h b k
    rw [k114_4]
    rcases (show cg s h b k = 0 ∨ cg s h b k = 1 by omega) with c | c
    · simp only [k114_5, k114_6, k114_9, k114_10, k114_11, k114_14, k114_15, k114_16, k114_17, k114_20, k114_23, k114_24, k114_25, k114_28, k114_31, k114_32, k114_33, k114_34, k114_37, im_t106 hm, im_t107 hm, im_t108 hm, im_t109 hm, im_t110 hm, im_t111 hm, im_t112 hm, im_t113 hm, im_t114 hm, im_t115 hm, im_t116 hm, im_l107 hm, im_l108 hm, im_l109 hm, im_l110 hm, im_l111 hm, im_l112 hm, im_l113 hm, im_l114 hm, im_l115 hm, im_l116 hm, im_r0 hm, im_r1 hm, im_r2 hm, im_r3 hm, im_r5 hm, im_r7 hm, im_r14 hm, im_r15 hm, im_r16 hm, im_r22 hm, rf_s, pushR_s, pushR_n, le4_0, le4_1, le4_2, le4_3, le4_4, isLong_n, isLong_i, isLong_r, isLong_f, if_true, if_false, not_true_eq_false, not_false_eq_true, isI_0, isI_9, isAr_0, isAr_1, isAr_2, isAr_9, okR_i, okR_0, okR_1, putI_0, putI_b0, putI_b1, nI_10, nI_00, Nat.reduceLT, Nat.reduceLeDiff, nI_add, upM_s, upI_s, pk_mul, nf_at, hs, e, m, m2, c, sumTo, aw, Nat.reduceEqDiff]
    · simp only [k114_5, k114_6, k114_9, k114_10, k114_11, k114_14, k114_15, k114_16, k114_17, k114_20, k114_23, k114_24, k114_25, k114_28, k114_31, k114_32, k114_33, k114_34, k114_37, im_t106 hm, im_t107 hm, im_t108 hm, im_t109 hm, im_t110 hm, im_t111 hm, im_t112 hm, im_t113 hm, im_t114 hm, im_t115 hm, im_t116 hm, im_l107 hm, im_l108 hm, im_l109 hm, im_l110 hm, im_l111 hm, im_l112 hm, im_l113 hm, im_l114 hm, im_l115 hm, im_l116 hm, im_r0 hm, im_r1 hm, im_r2 hm, im_r3 hm, im_r5 hm, im_r7 hm, im_r14 hm, im_r15 hm, im_r16 hm, im_r22 hm, rf_s, pushR_s, pushR_n, le4_0, le4_1, le4_2, le4_3, le4_4, isLong_n, isLong_i, isLong_r, isLong_f, if_true, if_false, not_true_eq_false, not_false_eq_true, isI_0, isI_9, isAr_0, isAr_1, isAr_2, isAr_9, okR_i, okR_0, okR_1, putI_0, putI_b0, putI_b1, nI_10, nI_00, Nat.reduceLT, Nat.reduceLeDiff, nI_add, upM_s, upI_s, pk_mul, nf_at, hs, e, m, m2, c, sumTo, aw]
  · have e : ¬ nI (s 1) < nI (s 1) := nI_nlt (Nat.le_refl _) (by omega)
    rw [k114_4]
    simp only [k114_5, k114_6, k114_9, k114_10, k114_11, k114_14, k114_15, k114_16, k114_17, k114_20, k114_23, k114_24, k114_25, k114_28, k114_31, k114_32, k114_33, k114_34, k114_37, im_t106 hm, im_t107 hm, im_t108 hm, im_t109 hm, im_t110 hm, im_t111 hm, im_t112 hm, im_t113 hm, im_t114 hm, im_t115 hm, im_t116 hm, im_l107 hm, im_l108 hm, im_l109 hm, im_l110 hm, im_l111 hm, im_l112 hm, im_l113 hm, im_l114 hm, im_l115 hm, im_l116 hm, im_r0 hm, im_r1 hm, im_r2 hm, im_r3 hm, im_r5 hm, im_r7 hm, im_r14 hm, im_r15 hm, im_r16 hm, im_r22 hm, rf_s, pushR_s, pushR_n, le4_0, le4_1, le4_2, le4_3, le4_4, isLong_n, isLong_i, isLong_r, isLong_f, if_true, if_false, not_true_eq_false, not_false_eq_true, isI_0, isI_9, isAr_0, isAr_1, isAr_2, isAr_9, okR_i, okR_0, okR_1, putI_0, putI_b0, putI_b1, nI_10, nI_00, Nat.reduceLT, Nat.reduceLeDiff, nI_add, upM_s, upI_s, pk_mul, nf_at, hs, e, sm]
theorem m114_0 {σ : Sg} {M : Mem} (hm : IsM σ) {s : Nat → Nat} (hs : M 107 = nf s) (g : Gph s) {h b : Nat} (hh : h < 10) (hb : b < 1024) (r1 : M 106 8 = nI h) (r2 : M 106 12 = nI b) (h0 : sm s h b = 0) (Q : Po) : wp 114 0 [some (.ref 106), none, none, none, none, none, none, none] [] σ M Q = Q (some (.int (-1))) σ M := by
  rw [m114z hm hs g hh hb r1 r2, h0]
  simp only [k114_40, k114_41, k114_44, k114_45, rf_s, pushR_s, pushR_n, le4_0, le4_1, le4_2, le4_3, le4_4, isLong_n, isLong_i, isLong_r, isLong_f, if_true, if_false, not_true_eq_false, not_false_eq_true, isI_0, isI_9, isAr_0, isAr_1, isAr_2, isAr_9, okR_i, okR_0, okR_1, putI_0, putI_b0, putI_b1, nI_10, nI_00, Nat.reduceLT, Nat.reduceLeDiff, nI_add, upM_s, upI_s, pk_mul, nf_at]
def pth (s : Nat → Nat) (h b : Nat) : Nat := pick (aw s h b) (nx (s 8) % sm s h b) (s 1)
theorem m114_1 {σ : Sg} {M : Mem} (hm : IsM σ) {s : Nat → Nat} (hs : M 107 = nf s) (g : Gph s) {h b : Nat} (hh : h < 10) (hb : b < 1024) (r1 : M 106 8 = nI h) (r2 : M 106 12 = nI b) (h0 : sm s h b ≠ 0) (hx : s 8 < 2147483647) (Q : Po) : wp 114 0 [some (.ref 106), none, none, none, none, none, none, none] [] σ M Q = Q (some (.int (nI (pth s h b)))) σ (upM M 107 (nf (upN s 8 (nx (s 8))))) := by
  have g1 := g.2.1
  have b1 := sm_le (h := h) (b := b) g (Nat.le_refl (s 1))
  have b2 : nx (s 8) < 2147483647 := Nat.mod_lt _ (by decide)
  have hp := pick_spec (f := aw s h b) (d := nx (s 8) % sm s h b) (n := s 1) (Nat.mod_lt _ (by omega))
  rw [m114z hm hs g hh hb r1 r2]
  have e0 : ¬ nI (sm s h b) = 0 := nI_ne0 (by omega) (by unfold sm; omega)
  have l1 : (nI (s 8)).toInt64 = lN (s 8) := nI_l (by omega)
  have l2 : (16807 : Int64) = lN 16807 := rfl
  have l3 : (2147483647 : Int64) = lN 2147483647 := rfl
  have l4 : ¬ lN 2147483647 = 0 := by decide
  have l5 : _ = lN (nx (s 8)) := pk_lRem (a := s 8 * 16807) (b := 2147483647) (by omega) (by omega) (by omega)
  have l6 := pk_rem (a := nx (s 8)) (d := sm s h b) (by omega) (by omega) (by unfold sm; omega)
  simp only [k114_40, k114_41, k114_44, k114_45, k114_46, k114_47, k114_50, k114_52, k114_53, k114_54, k114_57, k114_58, k114_61, k114_62, k114_63, k114_64, k114_67, k114_69, k114_70, k114_71, k114_72, k114_73, k114_76, k114_78, k114_79, k114_80, k114_81, k114_83, k114_84, k114_86, k114_87, im_t106 hm, im_t107 hm, im_t108 hm, im_t109 hm, im_t110 hm, im_t111 hm, im_t112 hm, im_t113 hm, im_t114 hm, im_t115 hm, im_t116 hm, im_l107 hm, im_l108 hm, im_l109 hm, im_l110 hm, im_l111 hm, im_l112 hm, im_l113 hm, im_l114 hm, im_l115 hm, im_l116 hm, im_r0 hm, im_r1 hm, im_r2 hm, im_r3 hm, im_r5 hm, im_r7 hm, im_r14 hm, im_r15 hm, im_r16 hm, im_r22 hm, rf_s, pushR_s, pushR_n, le4_0, le4_1, le4_2, le4_3, le4_4, isLong_n, isLong_i, isLong_r, isLong_f, if_true, if_false, not_true_eq_false, not_false_eq_true, isI_0, isI_9, isAr_0, isAr_1, isAr_2, isAr_9, okR_i, okR_0, okR_1, putI_0, putI_b0, putI_b1, nI_10, nI_00, Nat.reduceLT, Nat.reduceLeDiff, nI_add, upM_s, upI_s, pk_mul, nf_at, hs, e0, l1, l2, l3, l4, lN_mul, l5, lN_i, upI_nf, upN_s, l6]
  have hs2 : (upM M 107 (nf (upN s 8 (nx (s 8))))) 107 = nf (upN s 8 (nx (s 8))) := upM_s
  have q1 : (upM M 107 (nf (upN s 8 (nx (s 8))))) 106 8 = nI h := r1
  have q2 : (upM M 107 (nf (upN s 8 (nx (s 8))))) 106 12 = nI b := r2
  have eq8 : Eqg s (upN s 8 (nx (s 8))) := eqg_8
  have eg := eqg_Gph eq8 g
  have es1 : upN s 8 (nx (s 8)) 1 = s 1 := rfl
  generalize upM M 107 (nf (upN s 8 (nx (s 8)))) = N at *
  generalize hd : nx (s 8) % sm s h b = d at *
  obtain ⟨p1, p2, p3⟩ := hp
  have hpe : pth s h b = pick (aw s h b) d (s 1) := by unfold pth; rw [hd]
  rw [← hpe] at p1 p2 p3
  generalize pth s h b = p at *
  have step : ∀ k, k < s 1 → ∀ Q, wp 112 0 [some (.ref 106), some (.int (nI k)), none] [] σ N Q = Q (some (.int (nI (cg s h b k)))) σ N := fun k hk Q => by
    rw [m112 hm hs2 eg (by rw [es1]; exact hk) hh hb q1 q2, eqg_cg eq8 (by omega)]
  have step2 : ∀ k, k < s 1 → ∀ Q, wp 106 0 [some (.ref 106), some (.int (nI k))] [] σ N Q = Q (some (.int (nI (wt s k)))) σ N := fun k hk Q => by
    rw [m106 hm hs2 (by omega) (eg.2.2 k (by rw [es1]; exact hk)), eqg_wt eq8 (by omega)]
  have hN : N 107 1 = nI (s 1) := by rw [hs2, nf_at, es1]
  have hmod : d < 3199697 := by have := Nat.mod_lt (nx (s 8)) (show 0 < sm s h b by omega); unfold sm at *; omega
  refine (wp_up (n := p) (fun k => [some (.ref 106), some (.int (nI (sm s h b))), some (.long (lN (nx (s 8)))), none, some (.int (nI (d - sumTo (aw s h b) k))), some (.int (-1)), some (.int (nI k)), lastI (aw s h b) k]) (fun _ => N) Q (fun k hk => ?_)).trans ?_
  · have e : nI k < nI (s 1) := nI_lt (by omega) (by omega)
    have hc := @cg_le s h b k
    have mo := sumTo_mono (f := aw s h b) (a := k + 1) (b := p) (by omega)
    have mo2 := sm_le (h := h) (b := b) g (n := k + 1) (by omega)
    have mo3 : sumTo (aw s h b) (k + 1) = sumTo (aw s h b) k + aw s h b k := rfl
    have e1 : ¬ nI (d - sumTo (aw s h b) k) < nI (aw s h b k) := nI_nlt (by omega) (by omega)
    have e2 := pk_sub (a := d - sumTo (aw s h b) k) (b := aw s h b k) (by omega)
    have e3 : d - sumTo (aw s h b) k - aw s h b k = d - sumTo (aw s h b) (k + 1) := by omega
    rw [e3] at e2
    rw [k114_89]
    rcases (show cg s h b k = 0 ∨ cg s h b k = 1 by omega) with c | c
    · have ca : aw s h b k = 0 := by unfold aw; rw [c]; rfl
      rw [ca] at e1 e2
      simp only [k114_91, k114_92, k114_95, k114_96, k114_97, k114_100, k114_102, k114_103, k114_106, k114_107, k114_109, k114_112, k114_115, k114_116, k114_118, k114_121, k114_124, k114_125, k114_127, k114_129, k114_131, k114_134, k114_136, k114_139, k114_140, k114_142, k114_144, k114_146, k114_147, k114_149, k114_152, k114_155, im_t106 hm, im_t107 hm, im_t108 hm, im_t109 hm, im_t110 hm, im_t111 hm, im_t112 hm, im_t113 hm, im_t114 hm, im_t115 hm, im_t116 hm, im_l107 hm, im_l108 hm, im_l109 hm, im_l110 hm, im_l111 hm, im_l112 hm, im_l113 hm, im_l114 hm, im_l115 hm, im_l116 hm, im_r0 hm, im_r1 hm, im_r2 hm, im_r3 hm, im_r5 hm, im_r7 hm, im_r14 hm, im_r15 hm, im_r16 hm, im_r22 hm, rf_s, pushR_s, pushR_n, le4_0, le4_1, le4_2, le4_3, le4_4, isLong_n, isLong_i, isLong_r, isLong_f, if_true, if_false, not_true_eq_false, not_false_eq_true, isI_0, isI_9, isAr_0, isAr_1, isAr_2, isAr_9, okR_i, okR_0, okR_1, putI_0, putI_b0, putI_b1, nI_10, nI_00, Nat.reduceLT, Nat.reduceLeDiff, nI_add, upM_s, upI_s, pk_mul, nf_at, hN, e, step k (by omega), step2 k (by omega), c, e1, e2, lastI, ca]
    · have ca : aw s h b k = wt s k := by unfold aw; rw [c]; rfl
      rw [ca] at e1 e2
      simp only [k114_91, k114_92, k114_95, k114_96, k114_97, k114_100, k114_102, k114_103, k114_106, k114_107, k114_109, k114_112, k114_115, k114_116, k114_118, k114_121, k114_124, k114_125, k114_127, k114_129, k114_131, k114_134, k114_136, k114_139, k114_140, k114_142, k114_144, k114_146, k114_147, k114_149, k114_152, k114_155, im_t106 hm, im_t107 hm, im_t108 hm, im_t109 hm, im_t110 hm, im_t111 hm, im_t112 hm, im_t113 hm, im_t114 hm, im_t115 hm, im_t116 hm, im_l107 hm, im_l108 hm, im_l109 hm, im_l110 hm, im_l111 hm, im_l112 hm, im_l113 hm, im_l114 hm, im_l115 hm, im_l116 hm, im_r0 hm, im_r1 hm, im_r2 hm, im_r3 hm, im_r5 hm, im_r7 hm, im_r14 hm, im_r15 hm, im_r16 hm, im_r22 hm, rf_s, pushR_s, pushR_n, le4_0, le4_1, le4_2, le4_3, le4_4, isLong_n, isLong_i, isLong_r, isLong_f, if_true, if_false, not_true_eq_false, not_false_eq_true, isI_0, isI_9, isAr_0, isAr_1, isAr_2, isAr_9, okR_i, okR_0, okR_1, putI_0, putI_b0, putI_b1, nI_10, nI_00, Nat.reduceLT, Nat.reduceLeDiff, nI_add, upM_s, upI_s, pk_mul, nf_at, hN, e, step k (by omega), step2 k (by omega), c, e1, e2, lastI, ca]
  · have e : nI p < nI (s 1) := nI_lt (by omega) (by omega)
    have hc := @cg_le s h b p
    have mo3 : sumTo (aw s h b) (p + 1) = sumTo (aw s h b) p + aw s h b p := rfl
    have mo2 := sm_le (h := h) (b := b) g (n := p + 1) (by omega)
    have e1 : nI (d - sumTo (aw s h b) p) < nI (aw s h b p) := nI_lt (by omega) (by omega)
    have hcp : cg s h b p = 1 := by
      rcases (show cg s h b p = 0 ∨ cg s h b p = 1 by omega) with c | c
      · have ca : aw s h b p = 0 := by unfold aw; rw [c]; rfl
        omega
      · exact c
    have ca : aw s h b p = wt s p := by unfold aw; rw [hcp]; rfl
    rw [ca] at e1
    have e9 : ¬ nI p = -1 := ne_m1 (by omega)
    rw [k114_89]
    simp only [k114_91, k114_92, k114_95, k114_96, k114_97, k114_100, k114_102, k114_103, k114_106, k114_107, k114_109, k114_112, k114_115, k114_116, k114_118, k114_121, k114_124, k114_125, k114_127, k114_129, k114_131, k114_134, k114_136, k114_139, k114_140, k114_142, k114_144, k114_146, k114_147, k114_149, k114_152, k114_155, im_t106 hm, im_t107 hm, im_t108 hm, im_t109 hm, im_t110 hm, im_t111 hm, im_t112 hm, im_t113 hm, im_t114 hm, im_t115 hm, im_t116 hm, im_l107 hm, im_l108 hm, im_l109 hm, im_l110 hm, im_l111 hm, im_l112 hm, im_l113 hm, im_l114 hm, im_l115 hm, im_l116 hm, im_r0 hm, im_r1 hm, im_r2 hm, im_r3 hm, im_r5 hm, im_r7 hm, im_r14 hm, im_r15 hm, im_r16 hm, im_r22 hm, rf_s, pushR_s, pushR_n, le4_0, le4_1, le4_2, le4_3, le4_4, isLong_n, isLong_i, isLong_r, isLong_f, if_true, if_false, not_true_eq_false, not_false_eq_true, isI_0, isI_9, isAr_0, isAr_1, isAr_2, isAr_9, okR_i, okR_0, okR_1, putI_0, putI_b0, putI_b1, nI_10, nI_00, Nat.reduceLT, Nat.reduceLeDiff, nI_add, upM_s, upI_s, pk_mul, nf_at, hN, e, step p p1, step2 p p1, hcp, e1]
    rw [k114_89]
    by_cases c : p + 1 < s 1
    · have e5 : nI (p + 1) < nI (s 1) := nI_lt (by omega) (by omega)
      simp only [k114_91, k114_92, k114_95, k114_96, k114_97, k114_100, k114_102, k114_103, k114_106, k114_107, k114_109, k114_112, k114_115, k114_116, k114_118, k114_121, k114_124, k114_125, k114_127, k114_129, k114_131, k114_134, k114_136, k114_139, k114_140, k114_142, k114_144, k114_146, k114_147, k114_149, k114_152, k114_155, k114_157, im_t106 hm, im_t107 hm, im_t108 hm, im_t109 hm, im_t110 hm, im_t111 hm, im_t112 hm, im_t113 hm, im_t114 hm, im_t115 hm, im_t116 hm, im_l107 hm, im_l108 hm, im_l109 hm, im_l110 hm, im_l111 hm, im_l112 hm, im_l113 hm, im_l114 hm, im_l115 hm, im_l116 hm, im_r0 hm, im_r1 hm, im_r2 hm, im_r3 hm, im_r5 hm, im_r7 hm, im_r14 hm, im_r15 hm, im_r16 hm, im_r22 hm, rf_s, pushR_s, pushR_n, le4_0, le4_1, le4_2, le4_3, le4_4, isLong_n, isLong_i, isLong_r, isLong_f, if_true, if_false, not_true_eq_false, not_false_eq_true, isI_0, isI_9, isAr_0, isAr_1, isAr_2, isAr_9, okR_i, okR_0, okR_1, putI_0, putI_b0, putI_b1, nI_10, nI_00, Nat.reduceLT, Nat.reduceLeDiff, nI_add, upM_s, upI_s, pk_mul, nf_at, hN, e5, e9]
    · have e5 : ¬ nI (p + 1) < nI (s 1) := nI_nlt (by omega) (by omega)
      simp only [k114_91, k114_92, k114_95, k114_96, k114_97, k114_100, k114_102, k114_103, k114_106, k114_107, k114_109, k114_112, k114_115, k114_116, k114_118, k114_121, k114_124, k114_125, k114_127, k114_129, k114_131, k114_134, k114_136, k114_139, k114_140, k114_142, k114_144, k114_146, k114_147, k114_149, k114_152, k114_155, k114_157, im_t106 hm, im_t107 hm, im_t108 hm, im_t109 hm, im_t110 hm, im_t111 hm, im_t112 hm, im_t113 hm, im_t114 hm, im_t115 hm, im_t116 hm, im_l107 hm, im_l108 hm, im_l109 hm, im_l110 hm, im_l111 hm, im_l112 hm, im_l113 hm, im_l114 hm, im_l115 hm, im_l116 hm, im_r0 hm, im_r1 hm, im_r2 hm, im_r3 hm, im_r5 hm, im_r7 hm, im_r14 hm, im_r15 hm, im_r16 hm, im_r22 hm, rf_s, pushR_s, pushR_n, le4_0, le4_1, le4_2, le4_3, le4_4, isLong_n, isLong_i, isLong_r, isLong_f, if_true, if_false, not_true_eq_false, not_false_eq_true, isI_0, isI_9, isAr_0, isAr_1, isAr_2, isAr_9, okR_i, okR_0, okR_1, putI_0, putI_b0, putI_b1, nI_10, nI_00, Nat.reduceLT, Nat.reduceLeDiff, nI_add, upM_s, upI_s, pk_mul, nf_at, hN, e5, e9]
