/-! answers that are errors, and answers that are none -/
def er (v : Int32) : Prop := v = -1000000001 ∨ v = -1000000002 ∨ v = -1000000003 ∨ v = -1000000004
def nr (v : Int32) : Prop := -1000000000 ≤ v.toInt
theorem nr_nI {n : Nat} (h : n < 2 ^ 31) : nr (nI n) := by unfold nr; rw [nI_toInt h]; omega
theorem nr_sub {a b : Nat} (ha : a < 2 ^ 29) (hb : b < 2 ^ 29) : nr (nI a - nI b) := by
  unfold nr
  rw [pk_sub_toInt (by omega) (by omega)]
  omega
theorem m96e {σ : Sg} {M : Mem} {v : Int32} (h : er v) (Q : Po) : wp 96 0 [some (.int v)] [] σ M Q = Q (some (.int (nI 1))) σ M := by
  have e : inI v (-1000000004) (-1000000001) = nI 1 := by
    rcases h with h | h | h | h <;> subst h <;> decide
  simp only [k96_0, k96_1, k96_3, k96_5, k96_8, rf_s, pushR_s, pushR_n, le4_0, le4_1, le4_2, le4_3, le4_4, isLong_n, isLong_i, isLong_r, isLong_f, if_true, if_false, not_true_eq_false, not_false_eq_true, isI_0, isI_9, isAr_0, isAr_1, isAr_2, isAr_9, okR_i, okR_0, okR_1, putI_0, putI_b0, putI_b1, nI_10, nI_00, Nat.reduceLT, Nat.reduceLeDiff, nI_add, upM_s, upI_s, pk_mul, nf_at, m95, e]
theorem m96n {σ : Sg} {M : Mem} {v : Int32} (h : nr v) (Q : Po) : wp 96 0 [some (.int v)] [] σ M Q = Q (some (.int (nI 0))) σ M := by
  have e : inI v (-1000000004) (-1000000001) = nI 0 := by
    unfold inI
    have h2 : (-1000000001 : Int32).toInt = -1000000001 := by decide
    have h3 : (-1000000004 : Int32).toInt = -1000000004 := by decide
    unfold nr at h
    rw [if_neg (fun q => by have := Int32.lt_iff_toInt_lt.1 q; omega), if_pos (Int32.lt_iff_toInt_lt.2 (by omega))]
  simp only [k96_0, k96_1, k96_3, k96_5, k96_8, rf_s, pushR_s, pushR_n, le4_0, le4_1, le4_2, le4_3, le4_4, isLong_n, isLong_i, isLong_r, isLong_f, if_true, if_false, not_true_eq_false, not_false_eq_true, isI_0, isI_9, isAr_0, isAr_1, isAr_2, isAr_9, okR_i, okR_0, okR_1, putI_0, putI_b0, putI_b1, nI_10, nI_00, Nat.reduceLT, Nat.reduceLeDiff, nI_add, upM_s, upI_s, pk_mul, nf_at, m95, e]
def cp (n : Nat) (f g : Nat → Int32) : Nat → Int32 := fun j => if j < n then f j else g j
theorem cp_0 {f g : Nat → Int32} : cp 0 f g = g := by
  funext j
  exact if_neg (by omega)
theorem cp_up {f g : Nat → Int32} {n : Nat} : upI (cp n f g) n (f n) = cp (n + 1) f g := by
  funext j
  unfold upI cp
  by_cases c : j = n
  · subst c
    rw [if_pos rfl, if_pos (by omega)]
  · rw [if_neg c]
    by_cases c2 : j < n
    · rw [if_pos c2, if_pos (by omega)]
    · rw [if_neg c2, if_neg (by omega)]
theorem m97 {σ : Sg} {M : Mem} {a b : Nat} (hab : a ≠ b) (ta : sT σ a = 0) (tb : sT σ b = 0) (la : sL σ a = 146) (lb : sL σ b = 146) (Q : Po) : wp 97 0 [some (.ref a), some (.ref b), none] [] σ M Q = Q none σ (upM M b (cp 146 (M a) (M b))) := by
  simp only [k97_0, k97_1, rf_s, pushR_s, pushR_n, le4_0, le4_1, le4_2, le4_3, le4_4, isLong_n, isLong_i, isLong_r, isLong_f, if_true, if_false, not_true_eq_false, not_false_eq_true, isI_0, isI_9, isAr_0, isAr_1, isAr_2, isAr_9, okR_i, okR_0, okR_1, putI_0, putI_b0, putI_b1, nI_10, nI_00, Nat.reduceLT, Nat.reduceLeDiff, nI_add, upM_s, upI_s, pk_mul, nf_at]
  rw [show wp 97 2 [some (.ref a), some (.ref b), some (.int (nI 0))] [] σ M Q = wp 97 2 [some (.ref a), some (.ref b), some (.int (nI 0))] [] σ (upM M b (cp 0 (M a) (M b))) Q from by rw [cp_0, upM_self rfl]]
  refine (wp_up (n := 146) (fun k => [some (.ref a), some (.ref b), some (.int (nI k))]) (fun k => upM M b (cp k (M a) (M b))) Q (fun k hk => ?_)).trans ?_
  · have e : nI k < nI 146 := nI_lt hk (by omega)
    have u : ∀ f, upM M b f a = M a := fun f => upM_n hab
    rw [k97_2]
    simp only [k97_3, k97_6, k97_9, k97_10, k97_11, k97_12, k97_13, k97_14, k97_15, k97_18, rf_s, pushR_s, pushR_n, le4_0, le4_1, le4_2, le4_3, le4_4, isLong_n, isLong_i, isLong_r, isLong_f, if_true, if_false, not_true_eq_false, not_false_eq_true, isI_0, isI_9, isAr_0, isAr_1, isAr_2, isAr_9, okR_i, okR_0, okR_1, putI_0, putI_b0, putI_b1, nI_10, nI_00, Nat.reduceLT, Nat.reduceLeDiff, nI_add, upM_s, upI_s, pk_mul, nf_at, e, ta, tb, la, lb, hk, u, upM_up, cp_up]
  · have e : ¬ nI 146 < nI 146 := by decide
    rw [k97_2]
    simp only [k97_3, k97_6, k97_9, k97_10, k97_11, k97_12, k97_13, k97_14, k97_15, k97_18, k97_21, rf_s, pushR_s, pushR_n, le4_0, le4_1, le4_2, le4_3, le4_4, isLong_n, isLong_i, isLong_r, isLong_f, if_true, if_false, not_true_eq_false, not_false_eq_true, isI_0, isI_9, isAr_0, isAr_1, isAr_2, isAr_9, okR_i, okR_0, okR_1, putI_0, putI_b0, putI_b1, nI_10, nI_00, Nat.reduceLT, Nat.reduceLeDiff, nI_add, upM_s, upI_s, pk_mul, nf_at, e]
theorem m98 {σ : Sg} {M : Mem} (hm : IsM σ) (Q : Po) : wp 98 0 [some (.ref 106)] [] σ M Q = Q none σ (upM M 108 (cp 146 (M 107) (M 108))) := by
  have m := fun Q => m97 (M := M) (Q := Q) (a := 107) (b := 108) (by decide) (im_t107 hm) (im_t108 hm) (im_l107 hm) (im_l108 hm)
  simp only [k98_0, k98_1, k98_4, k98_5, k98_8, k98_11, im_t106 hm, im_t107 hm, im_t108 hm, im_t109 hm, im_t110 hm, im_t111 hm, im_t112 hm, im_t113 hm, im_t114 hm, im_t115 hm, im_t116 hm, im_l107 hm, im_l108 hm, im_l109 hm, im_l110 hm, im_l111 hm, im_l112 hm, im_l113 hm, im_l114 hm, im_l115 hm, im_l116 hm, im_r0 hm, im_r1 hm, im_r2 hm, im_r3 hm, im_r5 hm, im_r7 hm, im_r14 hm, im_r15 hm, im_r16 hm, im_r22 hm, rf_s, pushR_s, pushR_n, le4_0, le4_1, le4_2, le4_3, le4_4, isLong_n, isLong_i, isLong_r, isLong_f, if_true, if_false, not_true_eq_false, not_false_eq_true, isI_0, isI_9, isAr_0, isAr_1, isAr_2, isAr_9, okR_i, okR_0, okR_1, putI_0, putI_b0, putI_b1, nI_10, nI_00, Nat.reduceLT, Nat.reduceLeDiff, nI_add, upM_s, upI_s, pk_mul, nf_at, m]
theorem m99e {σ : Sg} {M : Mem} (hm : IsM σ) {v : Int32} (h : er v) (Q : Po) : wp 99 0 [some (.ref 106), some (.int v), none] [] σ M Q = Q (some (.int v)) σ (upM M 107 (cp 146 (M 108) (M 107))) := by
  have m := fun Q => m97 (M := M) (Q := Q) (a := 108) (b := 107) (by decide) (im_t108 hm) (im_t107 hm) (im_l108 hm) (im_l107 hm)
  simp only [k99_0, k99_1, k99_4, k99_7, k99_8, k99_11, k99_12, k99_15, k99_18, k99_19, im_t106 hm, im_t107 hm, im_t108 hm, im_t109 hm, im_t110 hm, im_t111 hm, im_t112 hm, im_t113 hm, im_t114 hm, im_t115 hm, im_t116 hm, im_l107 hm, im_l108 hm, im_l109 hm, im_l110 hm, im_l111 hm, im_l112 hm, im_l113 hm, im_l114 hm, im_l115 hm, im_l116 hm, im_r0 hm, im_r1 hm, im_r2 hm, im_r3 hm, im_r5 hm, im_r7 hm, im_r14 hm, im_r15 hm, im_r16 hm, im_r22 hm, rf_s, pushR_s, pushR_n, le4_0, le4_1, le4_2, le4_3, le4_4, isLong_n, isLong_i, isLong_r, isLong_f, if_true, if_false, not_true_eq_false, not_false_eq_true, isI_0, isI_9, isAr_0, isAr_1, isAr_2, isAr_9, okR_i, okR_0, okR_1, putI_0, putI_b0, putI_b1, nI_10, nI_00, Nat.reduceLT, Nat.reduceLeDiff, nI_add, upM_s, upI_s, pk_mul, nf_at, m96e h, m]
/-- the saved states, one more put down -/
def sv (f g : Nat → Int32) (n k : Nat) : Nat → Int32 := fun j => if 146 * n ≤ j ∧ j < 146 * n + k then f (j - 146 * n) else g j
theorem sv_0 {f g : Nat → Int32} {n : Nat} : sv f g n 0 = g := by
  funext j
  exact if_neg (by omega)
theorem sv_up {f g : Nat → Int32} {n k : Nat} : upI (sv f g n k) (146 * n + k) (f k) = sv f g n (k + 1) := by
  funext j
  unfold upI sv
  by_cases c : j = 146 * n + k
  · subst c
    rw [if_pos rfl, if_pos (by omega), show 146 * n + k - 146 * n = k by omega]
  · rw [if_neg c]
    by_cases c2 : 146 * n ≤ j ∧ j < 146 * n + k
    · rw [if_pos c2, if_pos (by omega)]
    · rw [if_neg c2, if_neg (by omega)]
theorem m99B {σ : Sg} {M : Mem} (hm : IsM σ) {v : Int32} {n : Nat} (hn : n < 4) (h4 : M 106 4 = nI n) (l2 : Option Value) (hl : isLong l2 = false) (Q : Po) : wp 99 69 [some (.ref 106), some (.int v), l2] [] σ M Q = Q (some (.int v)) σ (upM (upM M 110 (sv (M 108) (M 110) n 146)) 106 (upI (M 106) 4 (nI (n + 1)))) := by
  simp only [k99_69, k99_70, rf_s, pushR_s, pushR_n, le4_0, le4_1, le4_2, le4_3, le4_4, isLong_n, isLong_i, isLong_r, isLong_f, if_true, if_false, not_true_eq_false, not_false_eq_true, isI_0, isI_9, isAr_0, isAr_1, isAr_2, isAr_9, okR_i, okR_0, okR_1, putI_0, putI_b0, putI_b1, nI_10, nI_00, Nat.reduceLT, Nat.reduceLeDiff, nI_add, upM_s, upI_s, pk_mul, nf_at]
  rw [show wp 99 71 [some (.ref 106), some (.int v), some (.int (nI 0))] [] σ M Q = wp 99 71 [some (.ref 106), some (.int v), some (.int (nI 0))] [] σ (upM M 110 (sv (M 108) (M 110) n 0)) Q from by rw [sv_0, upM_self rfl]]
  have u1 : ∀ f, upM M 110 f 106 = M 106 := fun f => rfl
  have u2 : ∀ f, upM M 110 f 108 = M 108 := fun f => rfl
  refine (wp_up (n := 146) (fun k => [some (.ref 106), some (.int v), some (.int (nI k))]) (fun k => upM M 110 (sv (M 108) (M 110) n k)) Q (fun k hk => ?_)).trans ?_
  · have e : nI k < nI 146 := nI_lt hk (by omega)
    have hi : 146 * n + k < 584 := by omega
    rw [k99_71]
    simp only [k99_72, k99_75, k99_78, k99_79, k99_82, k99_85, k99_86, k99_89, k99_90, k99_91, k99_92, k99_93, k99_96, k99_97, k99_98, k99_99, k99_102, im_t106 hm, im_t107 hm, im_t108 hm, im_t109 hm, im_t110 hm, im_t111 hm, im_t112 hm, im_t113 hm, im_t114 hm, im_t115 hm, im_t116 hm, im_l107 hm, im_l108 hm, im_l109 hm, im_l110 hm, im_l111 hm, im_l112 hm, im_l113 hm, im_l114 hm, im_l115 hm, im_l116 hm, im_r0 hm, im_r1 hm, im_r2 hm, im_r3 hm, im_r5 hm, im_r7 hm, im_r14 hm, im_r15 hm, im_r16 hm, im_r22 hm, rf_s, pushR_s, pushR_n, le4_0, le4_1, le4_2, le4_3, le4_4, isLong_n, isLong_i, isLong_r, isLong_f, if_true, if_false, not_true_eq_false, not_false_eq_true, isI_0, isI_9, isAr_0, isAr_1, isAr_2, isAr_9, okR_i, okR_0, okR_1, putI_0, putI_b0, putI_b1, nI_10, nI_00, Nat.reduceLT, Nat.reduceLeDiff, nI_add, upM_s, upI_s, pk_mul, nf_at, e, u1, u2, h4, hk, hi, upM_up, sv_up]
  · have e : ¬ nI 146 < nI 146 := by decide
    rw [k99_71]
    simp only [k99_72, k99_75, k99_78, k99_79, k99_82, k99_85, k99_86, k99_89, k99_90, k99_91, k99_92, k99_93, k99_96, k99_97, k99_98, k99_99, k99_102, k99_105, k99_106i, k99_106r, k99_106f, k99_107, k99_110, k99_111, k99_112, k99_115, k99_116, im_t106 hm, im_t107 hm, im_t108 hm, im_t109 hm, im_t110 hm, im_t111 hm, im_t112 hm, im_t113 hm, im_t114 hm, im_t115 hm, im_t116 hm, im_l107 hm, im_l108 hm, im_l109 hm, im_l110 hm, im_l111 hm, im_l112 hm, im_l113 hm, im_l114 hm, im_l115 hm, im_l116 hm, im_r0 hm, im_r1 hm, im_r2 hm, im_r3 hm, im_r5 hm, im_r7 hm, im_r14 hm, im_r15 hm, im_r16 hm, im_r22 hm, rf_s, pushR_s, pushR_n, le4_0, le4_1, le4_2, le4_3, le4_4, isLong_n, isLong_i, isLong_r, isLong_f, if_true, if_false, not_true_eq_false, not_false_eq_true, isI_0, isI_9, isAr_0, isAr_1, isAr_2, isAr_9, okR_i, okR_0, okR_1, putI_0, putI_b0, putI_b1, nI_10, nI_00, Nat.reduceLT, Nat.reduceLeDiff, nI_add, upM_s, upI_s, pk_mul, nf_at, e, u1, h4]
theorem m99n {σ : Sg} {M : Mem} (hm : IsM σ) {v : Int32} (h : nr v) {n : Nat} (hn : n < 4) (h4 : M 106 4 = nI n) (Q : Po) : wp 99 0 [some (.ref 106), some (.int v), none] [] σ M Q = Q (some (.int v)) σ (upM (upM M 110 (sv (M 108) (M 110) n 146)) 106 (upI (M 106) 4 (nI (n + 1)))) := by
  have m := fun Q => m99B (Q := Q) hm (v := v) hn h4 none rfl
  have e : ¬ nI n = nI 4 := ne_n (by omega) (by omega) (by omega)
  simp only [k99_0, k99_1, k99_4, k99_7, k99_8, k99_11, k99_12, k99_15, k99_18, k99_19, k99_20, k99_21, k99_24, k99_25, k99_28, k99_29, im_t106 hm, im_t107 hm, im_t108 hm, im_t109 hm, im_t110 hm, im_t111 hm, im_t112 hm, im_t113 hm, im_t114 hm, im_t115 hm, im_t116 hm, im_l107 hm, im_l108 hm, im_l109 hm, im_l110 hm, im_l111 hm, im_l112 hm, im_l113 hm, im_l114 hm, im_l115 hm, im_l116 hm, im_r0 hm, im_r1 hm, im_r2 hm, im_r3 hm, im_r5 hm, im_r7 hm, im_r14 hm, im_r15 hm, im_r16 hm, im_r22 hm, rf_s, pushR_s, pushR_n, le4_0, le4_1, le4_2, le4_3, le4_4, isLong_n, isLong_i, isLong_r, isLong_f, if_true, if_false, not_true_eq_false, not_false_eq_true, isI_0, isI_9, isAr_0, isAr_1, isAr_2, isAr_9, okR_i, okR_0, okR_1, putI_0, putI_b0, putI_b1, nI_10, nI_00, Nat.reduceLT, Nat.reduceLeDiff, nI_add, upM_s, upI_s, pk_mul, nf_at, m96n h, h4, e, m]
/-- the saved states moved on -/
def mv (g : Nat → Int32) (k : Nat) : Nat → Int32 := fun j => if j < k then g (j + 146) else g j
theorem mv_up {g : Nat → Int32} {k : Nat} : upI (mv g k) k (mv g k (k + 146)) = mv g (k + 1) := by
  funext j
  unfold upI mv
  by_cases c : j = k
  · subst c
    rw [if_pos rfl, if_neg (by omega), if_pos (by omega)]
  · rw [if_neg c]
    by_cases c2 : j < k
    · rw [if_pos c2, if_pos (by omega)]
    · rw [if_neg c2, if_neg (by omega)]
theorem m99f {σ : Sg} {M : Mem} (hm : IsM σ) {v : Int32} (h : nr v) (h4 : M 106 4 = nI 4) (Q : Po) : wp 99 0 [some (.ref 106), some (.int v), none] [] σ M Q = Q (some (.int v)) σ (upM (upM M 110 (sv (M 108) (mv (M 110) 438) 3 146)) 106 (upI (M 106) 4 (nI 4))) := by
  simp only [k99_0, k99_1, k99_4, k99_7, k99_8, k99_11, k99_12, k99_15, k99_18, k99_19, k99_20, k99_21, k99_24, k99_25, k99_28, k99_29, im_t106 hm, im_t107 hm, im_t108 hm, im_t109 hm, im_t110 hm, im_t111 hm, im_t112 hm, im_t113 hm, im_t114 hm, im_t115 hm, im_t116 hm, im_l107 hm, im_l108 hm, im_l109 hm, im_l110 hm, im_l111 hm, im_l112 hm, im_l113 hm, im_l114 hm, im_l115 hm, im_l116 hm, im_r0 hm, im_r1 hm, im_r2 hm, im_r3 hm, im_r5 hm, im_r7 hm, im_r14 hm, im_r15 hm, im_r16 hm, im_r22 hm, rf_s, pushR_s, pushR_n, le4_0, le4_1, le4_2, le4_3, le4_4, isLong_n, isLong_i, isLong_r, isLong_f, if_true, if_false, not_true_eq_false, not_false_eq_true, isI_0, isI_9, isAr_0, isAr_1, isAr_2, isAr_9, okR_i, okR_0, okR_1, putI_0, putI_b0, putI_b1, nI_10, nI_00, Nat.reduceLT, Nat.reduceLeDiff, nI_add, upM_s, upI_s, pk_mul, nf_at, m96n h, h4]
  rw [show wp 99 30 [some (.ref 106), some (.int v), some (.int (nI 0))] [] σ M Q = wp 99 30 [some (.ref 106), some (.int v), some (.int (nI 0))] [] σ (upM M 110 (mv (M 110) 0)) Q from by rw [show mv (M 110) 0 = M 110 from funext (fun j => if_neg (by omega)), upM_self rfl]]
  have u1 : ∀ f, upM M 110 f 106 = M 106 := fun f => rfl
  have u2 : ∀ f g, upM (upM M 110 f) 106 g 108 = M 108 := fun f g => rfl
  have u3 : ∀ f g, upM (upM M 110 f) 106 g 110 = f := fun f g => rfl
  have u4 : ∀ f g h, upM (upM (upM M 110 f) 106 g) 110 h = upM (upM M 110 h) 106 g := fun f g h => by rw [upM_sw (by decide), upM_up]
  have s3 : nI 4 - nI 1 = nI 3 := by decide
  have u5 : upI (upI (M 106) 4 (nI 3)) 4 (nI (3 + 1)) = upI (M 106) 4 (nI 4) := by
    funext j
    unfold upI
    split <;> rfl
  refine (wp_up (n := 438) (fun k => [some (.ref 106), some (.int v), some (.int (nI k))]) (fun k => upM M 110 (mv (M 110) k)) Q (fun k hk => ?_)).trans ?_
  · have e : nI k < nI 438 := nI_lt hk (by omega)
    have hi : k + 146 < 584 := by omega
    have hi2 : k < 584 := by omega
    rw [k99_30]
    simp only [k99_31, k99_34, k99_37, k99_38, k99_41, k99_42, k99_43, k99_46, k99_47, k99_50, k99_51, k99_52, k99_53, k99_56, im_t106 hm, im_t107 hm, im_t108 hm, im_t109 hm, im_t110 hm, im_t111 hm, im_t112 hm, im_t113 hm, im_t114 hm, im_t115 hm, im_t116 hm, im_l107 hm, im_l108 hm, im_l109 hm, im_l110 hm, im_l111 hm, im_l112 hm, im_l113 hm, im_l114 hm, im_l115 hm, im_l116 hm, im_r0 hm, im_r1 hm, im_r2 hm, im_r3 hm, im_r5 hm, im_r7 hm, im_r14 hm, im_r15 hm, im_r16 hm, im_r22 hm, rf_s, pushR_s, pushR_n, le4_0, le4_1, le4_2, le4_3, le4_4, isLong_n, isLong_i, isLong_r, isLong_f, if_true, if_false, not_true_eq_false, not_false_eq_true, isI_0, isI_9, isAr_0, isAr_1, isAr_2, isAr_9, okR_i, okR_0, okR_1, putI_0, putI_b0, putI_b1, nI_10, nI_00, Nat.reduceLT, Nat.reduceLeDiff, nI_add, upM_s, upI_s, pk_mul, nf_at, e, u1, hi, hi2, upM_up, mv_up]
  · have e : ¬ nI 438 < nI 438 := by decide
    have m := fun Q => m99B (M := upM (upM M 110 (mv (M 110) 438)) 106 (upI (M 106) 4 (nI 3))) (Q := Q) hm (v := v) (n := 3) (by decide) (by rw [upM_s, upI_s]) (some (.int (nI 438))) rfl
    rw [k99_30]
    simp only [k99_31, k99_34, k99_37, k99_38, k99_41, k99_42, k99_43, k99_46, k99_47, k99_50, k99_51, k99_52, k99_53, k99_56, k99_59, k99_60i, k99_60r, k99_60f, k99_61, k99_64, k99_65, k99_66, im_t106 hm, im_t107 hm, im_t108 hm, im_t109 hm, im_t110 hm, im_t111 hm, im_t112 hm, im_t113 hm, im_t114 hm, im_t115 hm, im_t116 hm, im_l107 hm, im_l108 hm, im_l109 hm, im_l110 hm, im_l111 hm, im_l112 hm, im_l113 hm, im_l114 hm, im_l115 hm, im_l116 hm, im_r0 hm, im_r1 hm, im_r2 hm, im_r3 hm, im_r5 hm, im_r7 hm, im_r14 hm, im_r15 hm, im_r16 hm, im_r22 hm, rf_s, pushR_s, pushR_n, le4_0, le4_1, le4_2, le4_3, le4_4, isLong_n, isLong_i, isLong_r, isLong_f, if_true, if_false, not_true_eq_false, not_false_eq_true, isI_0, isI_9, isAr_0, isAr_1, isAr_2, isAr_9, okR_i, okR_0, okR_1, putI_0, putI_b0, putI_b1, nI_10, nI_00, Nat.reduceLT, Nat.reduceLeDiff, nI_add, upM_s, upI_s, pk_mul, nf_at, e, u1, h4, s3, m, u2, u3, u4, upM_up, u5]
