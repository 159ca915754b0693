def gts (s : Nat → Nat) : Nat → Nat
  | 0 => 0
  | n + 1 => if gts s n < s (30 + 6 * n + 3) then s (30 + 6 * n + 3) else gts s n
theorem gts_le {s : Nat → Nat} (g : Gph s) : ∀ n, n ≤ s 1 → gts s n ≤ 9999
  | 0, _ => Nat.zero_le _
  | n + 1, hn => by
    have ih := gts_le g n (by omega)
    have p := g.2.2 n (by omega)
    unfold pOk at p
    unfold gts
    split <;> omega
theorem m146 {σ : Sg} {M : Mem} (hm : IsM σ) {s : Nat → Nat} (hs : M 107 = nf s) (g : Gph s) (Q : Po) : wp 146 0 [some (.ref 106), none, none] [] σ M Q = Q (some (.int (nI (gts s (s 1))))) σ M := by
  have g1 := g.2.1
  simp only [k146_0, k146_1, k146_2, k146_3, rf_s, pushR_s, pushR_n, le4_0, le4_1, le4_2, le4_3, le4_4, isLong_n, isLong_i, isLong_r, isLong_f, if_true, if_false, not_true_eq_false, not_false_eq_true, isI_0, isI_9, isAr_0, isAr_1, isAr_2, isAr_9, okR_i, okR_0, okR_1, putI_0, putI_b0, putI_b1, nI_10, nI_00, Nat.reduceLT, Nat.reduceLeDiff, nI_add, upM_s, upI_s, pk_mul, nf_at]
  refine (wp_up (n := s 1) (fun k => [some (.ref 106), some (.int (nI (gts s k))), some (.int (nI k))]) (fun _ => M) Q (fun k hk => ?_)).trans ?_
  · have e : nI k < nI (s 1) := nI_lt hk (by omega)
    have m := fun Q => m102 (M := M) (Q := Q) hm (k := k) (w := 3) (by omega) (by omega)
    have p := g.2.2 k hk
    unfold pOk at p
    have b := gts_le g k (by omega)
    rw [k146_4]
    by_cases c : gts s k < s (30 + 6 * k + 3)
    · have z : nI (gts s k) < nI (s (30 + 6 * k + 3)) := nI_lt c (by omega)
      have z2 : ¬ nI (s (30 + 6 * k + 3)) ≤ nI (gts s k) := nI_ge c (by omega)
      have eo : gts s (k + 1) = s (30 + 6 * k + 3) := if_pos c
      simp only [k146_0, k146_1, k146_2, k146_3, k146_5, k146_6, k146_9, k146_10, k146_11, k146_14, k146_15, k146_16, k146_17, k146_20, k146_21, k146_24, k146_25, k146_26, k146_27, k146_30, k146_33, k146_34, k146_35, k146_38, k146_41, k146_42, im_t106 hm, im_t107 hm, im_t108 hm, im_t109 hm, im_t110 hm, im_t111 hm, im_t112 hm, im_t113 hm, im_t114 hm, im_t115 hm, im_t116 hm, im_l107 hm, im_l108 hm, im_l109 hm, im_l110 hm, im_l111 hm, im_l112 hm, im_l113 hm, im_l114 hm, im_l115 hm, im_l116 hm, im_r0 hm, im_r1 hm, im_r2 hm, im_r3 hm, im_r5 hm, im_r7 hm, im_r14 hm, im_r15 hm, im_r16 hm, im_r22 hm, rf_s, pushR_s, pushR_n, le4_0, le4_1, le4_2, le4_3, le4_4, isLong_n, isLong_i, isLong_r, isLong_f, if_true, if_false, not_true_eq_false, not_false_eq_true, isI_0, isI_9, isAr_0, isAr_1, isAr_2, isAr_9, okR_i, okR_0, okR_1, putI_0, putI_b0, putI_b1, nI_10, nI_00, Nat.reduceLT, Nat.reduceLeDiff, nI_add, upM_s, upI_s, pk_mul, nf_at, hs, e, m, z, z2, eo]
    · have z : ¬ nI (gts s k) < nI (s (30 + 6 * k + 3)) := nI_nlt (by omega) (by omega)
      have z2 : nI (s (30 + 6 * k + 3)) ≤ nI (gts s k) := nI_le (by omega) (by omega)
      have eo : gts s (k + 1) = gts s k := if_neg c
      simp only [k146_0, k146_1, k146_2, k146_3, k146_5, k146_6, k146_9, k146_10, k146_11, k146_14, k146_15, k146_16, k146_17, k146_20, k146_21, k146_24, k146_25, k146_26, k146_27, k146_30, k146_33, k146_34, k146_35, k146_38, k146_41, k146_42, im_t106 hm, im_t107 hm, im_t108 hm, im_t109 hm, im_t110 hm, im_t111 hm, im_t112 hm, im_t113 hm, im_t114 hm, im_t115 hm, im_t116 hm, im_l107 hm, im_l108 hm, im_l109 hm, im_l110 hm, im_l111 hm, im_l112 hm, im_l113 hm, im_l114 hm, im_l115 hm, im_l116 hm, im_r0 hm, im_r1 hm, im_r2 hm, im_r3 hm, im_r5 hm, im_r7 hm, im_r14 hm, im_r15 hm, im_r16 hm, im_r22 hm, rf_s, pushR_s, pushR_n, le4_0, le4_1, le4_2, le4_3, le4_4, isLong_n, isLong_i, isLong_r, isLong_f, if_true, if_false, not_true_eq_false, not_false_eq_true, isI_0, isI_9, isAr_0, isAr_1, isAr_2, isAr_9, okR_i, okR_0, okR_1, putI_0, putI_b0, putI_b1, nI_10, nI_00, Nat.reduceLT, Nat.reduceLeDiff, nI_add, upM_s, upI_s, pk_mul, nf_at, hs, e, m, z, z2, eo]
  · have e : ¬ nI (s 1) < nI (s 1) := nI_nlt (Nat.le_refl _) (by omega)
    rw [k146_4]
    simp only [k146_0, k146_1, k146_2, k146_3, k146_5, k146_6, k146_9, k146_10, k146_11, k146_14, k146_15, k146_16, k146_17, k146_20, k146_21, k146_24, k146_25, k146_26, k146_27, k146_30, k146_33, k146_34, k146_35, k146_38, k146_41, k146_42, im_t106 hm, im_t107 hm, im_t108 hm, im_t109 hm, im_t110 hm, im_t111 hm, im_t112 hm, im_t113 hm, im_t114 hm, im_t115 hm, im_t116 hm, im_l107 hm, im_l108 hm, im_l109 hm, im_l110 hm, im_l111 hm, im_l112 hm, im_l113 hm, im_l114 hm, im_l115 hm, im_l116 hm, im_r0 hm, im_r1 hm, im_r2 hm, im_r3 hm, im_r5 hm, im_r7 hm, im_r14 hm, im_r15 hm, im_r16 hm, im_r22 hm, rf_s, pushR_s, pushR_n, le4_0, le4_1, le4_2, le4_3, le4_4, isLong_n, isLong_i, isLong_r, isLong_f, if_true, if_false, not_true_eq_false, not_false_eq_true, isI_0, isI_9, isAr_0, isAr_1, isAr_2, isAr_9, okR_i, okR_0, okR_1, putI_0, putI_b0, putI_b1, nI_10, nI_00, Nat.reduceLT, Nat.reduceLeDiff, nI_add, upM_s, upI_s, pk_mul, nf_at, hs, e]
def aCount (s : Nat → Nat) (n len w : Nat) : Nat := if 20 ≤ w then s (w - 7) else if w = 0 then s 0 else if w = 1 then s 1 else if w = 2 then sumTo (opn s) (s 1) else if w < 8 then s (w - 1) else if w = 8 then sumTo (trl s) (s 1) else if w = 9 then gts s (s 1) else if w = 10 then s 7 else if w = 11 then s 8 else if w = 12 then n else len
def kOk (w : Nat) : Prop := w < 14 ∨ 20 ≤ w ∧ w < 27
def rCount (s : Nat → Nat) (n len : Nat) (x r : Int32) : Prop := (∃ w, kOk w ∧ x = nI w ∧ r = nI (aCount s n len w)) ∨ (¬ ∃ w, kOk w ∧ x = nI w) ∧ r = -1000000001
theorem rCount_ex {s : Nat → Nat} {n len : Nat} (x : Int32) : ∃ r, rCount s n len x r := by
  by_cases h : ∃ w, kOk w ∧ x = nI w
  · obtain ⟨w, hw, e⟩ := h
    exact ⟨_, Or.inl ⟨w, hw, e, rfl⟩⟩
  · exact ⟨_, Or.inr ⟨h, rfl⟩⟩
theorem inI_o {w a b : Nat} (hw : w < 2 ^ 31) (ha : a < 2 ^ 31) (hb : b < 2 ^ 31) (h : w < a ∨ b < w) : inI (nI w) (nI a) (nI b) = nI 0 := by
  unfold inI
  by_cases c : w < a
  · rw [if_pos (nI_lt c ha)]
  · rw [if_neg (nI_nlt (by omega) (by omega)), if_pos (nI_lt (by omega) (by omega))]
theorem m147 {σ : Sg} {M : Mem} (hm : IsM σ) {s : Nat → Nat} (hs : M 107 = nf s) (i : Inv s) {n len : Nat} (h4 : M 106 4 = nI n) (h6 : M 106 6 = nI len) {x r : Int32} (o : rCount s n len x r) (Q : Po) : wp 147 0 [some (.ref 106), some (.int x)] [] σ M Q = Q (some (.int r)) σ M := by
  have m2 := fun Q => m107 (Q := Q) hm hs i.1
  have m8 := fun Q => m109 (Q := Q) hm hs i.1.2.1
  have m9 := fun Q => m146 (Q := Q) hm hs i.1
  rcases o with ⟨w, hw, e, er⟩ | ⟨h, e⟩
  · subst e er
    unfold kOk at hw
    rcases hw with hw | hw
    · have il := inI_o (w := w) (a := 20) (b := 26) (by omega) (by omega) (by omega) (by omega)
      rcases (show w = 0 ∨ w = 1 ∨ w = 2 ∨ w = 3 ∨ w = 4 ∨ w = 5 ∨ w = 6 ∨ w = 7 ∨ w = 8 ∨ w = 9 ∨ w = 10 ∨ w = 11 ∨ w = 12 ∨ w = 13 by omega) with c | c | c | c | c | c | c | c | c | c | c | c | c | c <;> subst c <;> simp only [k147_0, k147_1, k147_3, k147_5, k147_8, k147_11, k147_12, k147_15, k147_17, k147_18, k147_19, k147_21, k147_22, k147_23, k147_24, k147_25, k147_96, k147_97, k147_100, k147_101, k147_102, k147_103, k147_104, k147_107, k147_108, k147_109, k147_112, k147_113, k147_114, k147_115, k147_116, k147_117, k147_118, k147_119, k147_120, k147_123, k147_124, k147_125, k147_128, k147_129, k147_130, k147_133, k147_135, k147_136, k147_137, k147_138, k147_141, k147_143, k147_144, k147_145, k147_146, k147_149, k147_150, k147_151, k147_154, k147_155, k147_157, im_t106 hm, im_t107 hm, im_t108 hm, im_t109 hm, im_t110 hm, im_t111 hm, im_t112 hm, im_t113 hm, im_t114 hm, im_t115 hm, im_t116 hm, im_l107 hm, im_l108 hm, im_l109 hm, im_l110 hm, im_l111 hm, im_l112 hm, im_l113 hm, im_l114 hm, im_l115 hm, im_l116 hm, im_r0 hm, im_r1 hm, im_r2 hm, im_r3 hm, im_r5 hm, im_r7 hm, im_r14 hm, im_r15 hm, im_r16 hm, im_r22 hm, rf_s, pushR_s, pushR_n, le4_0, le4_1, le4_2, le4_3, le4_4, isLong_n, isLong_i, isLong_r, isLong_f, if_true, if_false, not_true_eq_false, not_false_eq_true, isI_0, isI_9, isAr_0, isAr_1, isAr_2, isAr_9, okR_i, okR_0, okR_1, putI_0, putI_b0, putI_b1, nI_10, nI_00, Nat.reduceLT, Nat.reduceLeDiff, nI_add, upM_s, upI_s, pk_mul, nf_at, m95, il, nI_lit, Nat.reduceEqDiff, hs, m2, m8, m9, h4, h6, aCount, Nat.reduceAdd, Nat.reduceSub, pk_sub]
    · have il := inI_c (v := nI w) (a := 20) (b := 26) (by omega) (by omega) hw.1 (by omega) rfl
      rcases (show w = 20 ∨ w = 21 ∨ w = 22 ∨ w = 23 ∨ w = 24 ∨ w = 25 ∨ w = 26 by omega) with c | c | c | c | c | c | c <;> subst c <;> simp only [k147_0, k147_1, k147_3, k147_5, k147_8, k147_11, k147_12, k147_15, k147_17, k147_18, k147_19, k147_21, k147_22, k147_23, k147_24, k147_25, k147_96, k147_97, k147_100, k147_101, k147_102, k147_103, k147_104, k147_107, k147_108, k147_109, k147_112, k147_113, k147_114, k147_115, k147_116, k147_117, k147_118, k147_119, k147_120, k147_123, k147_124, k147_125, k147_128, k147_129, k147_130, k147_133, k147_135, k147_136, k147_137, k147_138, k147_141, k147_143, k147_144, k147_145, k147_146, k147_149, k147_150, k147_151, k147_154, k147_155, k147_157, im_t106 hm, im_t107 hm, im_t108 hm, im_t109 hm, im_t110 hm, im_t111 hm, im_t112 hm, im_t113 hm, im_t114 hm, im_t115 hm, im_t116 hm, im_l107 hm, im_l108 hm, im_l109 hm, im_l110 hm, im_l111 hm, im_l112 hm, im_l113 hm, im_l114 hm, im_l115 hm, im_l116 hm, im_r0 hm, im_r1 hm, im_r2 hm, im_r3 hm, im_r5 hm, im_r7 hm, im_r14 hm, im_r15 hm, im_r16 hm, im_r22 hm, rf_s, pushR_s, pushR_n, le4_0, le4_1, le4_2, le4_3, le4_4, isLong_n, isLong_i, isLong_r, isLong_f, if_true, if_false, not_true_eq_false, not_false_eq_true, isI_0, isI_9, isAr_0, isAr_1, isAr_2, isAr_9, okR_i, okR_0, okR_1, putI_0, putI_b0, putI_b1, nI_10, nI_00, Nat.reduceLT, Nat.reduceLeDiff, nI_add, upM_s, upI_s, pk_mul, nf_at, m95, il, hs, aCount, Nat.reduceAdd, Nat.reduceSub, pk_sub]
  · subst e
    have nn : ∀ w, kOk w → ¬ x = nI w := fun w hw e => h ⟨w, hw, e⟩
    have il := inI_d (v := x) (a := 20) (b := 26) (by omega) (by omega) (fun ⟨w, h1, h2, h3⟩ => nn w (Or.inr ⟨h1, by omega⟩) h3)
    have n : ∀ w, w < 14 → ¬ x = nI w := fun w hw => nn w (Or.inl hw)
    simp only [k147_0, k147_1, k147_3, k147_5, k147_8, k147_11, k147_12, k147_15, k147_17, k147_18, k147_19, k147_21, k147_22, k147_23, k147_24, k147_25, k147_96, k147_97, k147_100, k147_101, k147_102, k147_103, k147_104, k147_107, k147_108, k147_109, k147_112, k147_113, k147_114, k147_115, k147_116, k147_117, k147_118, k147_119, k147_120, k147_123, k147_124, k147_125, k147_128, k147_129, k147_130, k147_133, k147_135, k147_136, k147_137, k147_138, k147_141, k147_143, k147_144, k147_145, k147_146, k147_149, k147_150, k147_151, k147_154, k147_155, k147_157, im_t106 hm, im_t107 hm, im_t108 hm, im_t109 hm, im_t110 hm, im_t111 hm, im_t112 hm, im_t113 hm, im_t114 hm, im_t115 hm, im_t116 hm, im_l107 hm, im_l108 hm, im_l109 hm, im_l110 hm, im_l111 hm, im_l112 hm, im_l113 hm, im_l114 hm, im_l115 hm, im_l116 hm, im_r0 hm, im_r1 hm, im_r2 hm, im_r3 hm, im_r5 hm, im_r7 hm, im_r14 hm, im_r15 hm, im_r16 hm, im_r22 hm, rf_s, pushR_s, pushR_n, le4_0, le4_1, le4_2, le4_3, le4_4, isLong_n, isLong_i, isLong_r, isLong_f, if_true, if_false, not_true_eq_false, not_false_eq_true, isI_0, isI_9, isAr_0, isAr_1, isAr_2, isAr_9, okR_i, okR_0, okR_1, putI_0, putI_b0, putI_b1, nI_10, nI_00, Nat.reduceLT, Nat.reduceLeDiff, nI_add, upM_s, upI_s, pk_mul, nf_at, m95, il, n 0 (by omega), n 1 (by omega), n 2 (by omega), n 3 (by omega), n 4 (by omega), n 5 (by omega), n 6 (by omega), n 7 (by omega), n 8 (by omega), n 9 (by omega), n 10 (by omega), n 11 (by omega), n 12 (by omega), n 13 (by omega)]
/-! what the reference holds: the state, the states of the history, the text -/
def RfL (M : Mem) (s : Nat → Nat) (H : Nat → Nat → Nat) (n len : Nat) (T : Nat → Nat) : Prop := M 107 = nf s ∧ M 106 4 = nI n ∧ (∀ i j, i < n → j < 146 → M 110 (146 * i + j) = nI (H i j)) ∧ M 106 6 = nI len ∧ ∀ j, j < len → M 111 j = nI (T j)
theorem RfL_q {M M' : Mem} {s : Nat → Nat} {H : Nat → Nat → Nat} {n len : Nat} {T : Nat → Nat} (h : RfL M s H n len T) (q : RQ M M' s) : ∃ s', e146 s s' ∧ RfL M' s' H n len T := by
  obtain ⟨⟨s', e, e7⟩, f, f4, f6⟩ := q
  obtain ⟨h1, h2, h3, h4, h5⟩ := h
  refine ⟨s', e, e7, by rw [f4, h2], fun i j hi hj => by rw [f 110 (by omega)]; exact h3 i j hi hj, by rw [f6, h4], fun j hj => by rw [f 111 (by omega)]; exact h5 j hj⟩
def pH (H : Nat → Nat → Nat) (n : Nat) (s : Nat → Nat) : Nat → Nat → Nat := if n < 4 then (fun i => if i = n then s else H i) else (fun i => if i = 3 then s else H (i + 1))
def pN (n : Nat) : Nat := if n < 4 then n + 1 else 4
/-- what a change leaves -/
def RC (M M' : Mem) (s s' : Nat → Nat) (H : Nat → Nat → Nat) (n len : Nat) (T : Nat → Nat) (r : Int32) : Prop := (er r → ∃ s'', e146 s s'' ∧ RfL M' s'' H n len T) ∧ (nr r → RfL M' s' (pH H n s) (pN n) len T) ∧ ∀ o, o < 106 ∨ 116 < o → M' o = M o
theorem er_nr {r : Int32} (h : er r) (h2 : nr r) : False := by
  unfold nr at h2
  rcases h with h | h | h | h <;> subst h <;> revert h2 <;> decide
theorem acts {σ : Sg} {M : Mem} (hm : IsM σ) {s s' : Nat → Nat} {H : Nat → Nat → Nat} {n len : Nat} {T : Nat → Nat} {f : Nat → Int32} {r : Int32} (hr : er r ∨ nr r) (h8 : M 108 = cp 146 (nf s) f) (h : RfL M s' H n len T) (hn : n ≤ 4) : ∃ M', (∀ Q, wp 99 0 [some (.ref 106), some (.int r), none] [] σ M Q = Q (some (.int r)) σ M') ∧ RC M M' s s' H n len T r := by
  obtain ⟨h1, h2, h3, h4, h5⟩ := h
  rcases hr with e | e
  · refine ⟨_, fun Q => m99e hm e Q, fun _ => ⟨mix s s', mix_e, ?_⟩, fun q => (er_nr e q).elim, fun o ho => upM_n (by omega)⟩
    rw [h8, h1, cp_mix]
    exact ⟨upM_s, h2, h3, h4, h5⟩
  · have e8 : ∀ j, j < 146 → M 108 j = nI (s j) := fun j hj => by rw [h8]; exact if_pos hj
    by_cases c : n < 4
    · refine ⟨_, fun Q => m99n hm e c h2 Q, fun q => (er_nr q e).elim, fun _ => ?_, fun o ho => by rw [upM_n (by omega), upM_n (by omega)]⟩
      refine ⟨h1, ?_, fun i j hi hj => ?_, h4, h5⟩
      · unfold pN
        rw [if_pos c, upM_s, upI_s]
      · unfold pN at hi
        rw [if_pos c] at hi
        unfold pH
        rw [if_pos c]
        show sv (M 108) (M 110) n 146 (146 * i + j) = nI ((if i = n then s else H i) j)
        unfold sv
        by_cases ci : i = n
        · subst ci
          rw [if_pos (by omega), if_pos rfl, show 146 * i + j - 146 * i = j by omega]
          exact e8 j hj
        · rw [if_neg (by omega), if_neg ci]
          exact h3 i j (by omega) hj
    · have n4 : n = 4 := by omega
      subst n4
      refine ⟨_, fun Q => m99f hm e h2 Q, fun q => (er_nr q e).elim, fun _ => ?_, fun o ho => by rw [upM_n (by omega), upM_n (by omega)]⟩
      refine ⟨h1, ?_, fun i j hi hj => ?_, h4, h5⟩
      · rw [upM_s, upI_s]; rfl
      · have hi' : i < 4 := hi
        show sv (M 108) (mv (M 110) 438) 3 146 (146 * i + j) = nI ((if i = 3 then s else H (i + 1)) j)
        unfold sv
        by_cases ci : i = 3
        · subst ci
          rw [if_pos (by omega), if_pos rfl, show 146 * 3 + j - 146 * 3 = j by omega]
          exact e8 j hj
        · rw [if_neg (by omega), if_neg ci]
          unfold mv
          rw [if_pos (by omega), show 146 * i + j + 146 = 146 * (i + 1) + j by omega]
          exact h3 (i + 1) j (by omega) hj
/-- an order that changes, as the reference does it -/
theorem RfL_up {M : Mem} {s s' : Nat → Nat} {H : Nat → Nat → Nat} {n len : Nat} {T : Nat → Nat} (h : RfL M s H n len T) {M' : Mem} (e : M' 107 = nf s') (f : ∀ o, o = 110 ∨ o = 111 → M' o = M o) (f4 : M' 106 4 = M 106 4) (f6 : M' 106 6 = M 106 6) : RfL M' s' H n len T := by
  obtain ⟨h1, h2, h3, h4, h5⟩ := h
  exact ⟨e, by rw [f4, h2], fun i j hi hj => by rw [f 110 (by omega)]; exact h3 i j hi hj, by rw [f6, h4], fun j hj => by rw [f 111 (by omega)]; exact h5 j hj⟩
theorem RC_fr {M N M' : Mem} {s s' : Nat → Nat} {H : Nat → Nat → Nat} {n len : Nat} {T : Nat → Nat} {r : Int32} (h : RC N M' s s' H n len T r) (f : ∀ o, o < 106 ∨ 116 < o → N o = M o) : RC M M' s s' H n len T r := ⟨h.1, h.2.1, fun o ho => by rw [h.2.2 o ho, f o ho]⟩
def oPlace (s : Nat → Nat) (r : Int32) (s' : Nat → Nat) : Prop := s 0 = 10 ∧ r = -1000000003 ∧ s' = s ∨ s 0 < 10 ∧ r = nI (s 0) ∧ s' = upN s 0 (s 0 + 1)
theorem oPlace_ex {s : Nat → Nat} (i : Inv s) : ∃ r s', oPlace s r s' := by
  have g0 := i.1.1
  by_cases c : s 0 = 10
  · exact ⟨_, _, Or.inl ⟨c, rfl, rfl⟩⟩
  · exact ⟨_, _, Or.inr ⟨by omega, rfl, rfl⟩⟩
theorem oPlace_inv {s : Nat → Nat} (i : Inv s) {r : Int32} {s' : Nat → Nat} (o : oPlace s r s') : Inv s' ∧ (er r ∧ s' = s ∨ nr r) := by
  rcases o with ⟨h1, h2, h3⟩ | ⟨h1, h2, h3⟩
  · rw [h2, h3]; exact ⟨i, Or.inl ⟨Or.inr (Or.inr (Or.inl rfl)), rfl⟩⟩
  · rw [h2, h3]
    obtain ⟨⟨g0, g1, g2⟩, i2, i3, i4, i5⟩ := i
    have n : ∀ j, j ≠ 0 → upN s 0 (s 0 + 1) j = s j := fun j h => upN_n h
    have e0 : upN s 0 (s 0 + 1) 0 = s 0 + 1 := upN_s
    refine ⟨⟨⟨by rw [e0]; omega, by rw [n 1 (by omega)]; exact g1, fun q hq => ?_⟩, ?_, ?_, by rw [n 8 (by omega)]; exact i4, ?_⟩, Or.inr (nr_nI (by omega))⟩
    · rw [n 1 (by omega)] at hq
      have h := g2 q hq
      unfold pOk at h ⊢
      rw [e0, n (30 + 6 * q + 0) (by omega), n (30 + 6 * q + 1) (by omega), n (30 + 6 * q + 2) (by omega), n (30 + 6 * q + 3) (by omega), n (30 + 6 * q + 4) (by omega)]
      exact ⟨by omega, by omega, h.2.2⟩
    · unfold sOk at i2 ⊢
      rw [n 13 (by omega), n 14 (by omega), n 15 (by omega), n 16 (by omega), n 17 (by omega), n 18 (by omega), n 19 (by omega)]
      exact i2
    · unfold fOk at i3 ⊢
      rw [n 7 (by omega), e0]
      omega
    · unfold bOk at i5 ⊢
      rw [n 7 (by omega), e0, n 9 (by omega), n 10 (by omega), n 12 (by omega), n 20 (by omega)]
      refine ⟨fun h9 => ?_, i5.2⟩
      obtain ⟨q1, q2, q3, q4, q5, q6, q7⟩ := i5.1 h9
      exact ⟨by omega, q2, q3, q4, q5, q6, fun i hi => by rw [n (20 + i) (by omega)]; have := q7 i hi; omega⟩
def oForget (s : Nat → Nat) (r : Int32) (s' : Nat → Nat) : Prop := r = nI (sumTo (trl s) (s 1)) - nI (sumTo (trl s') (s 1)) ∧ s' = mapT (upN s 9 0) (s 1) (fun _ => s 17)
theorem trl_le {s : Nat → Nat} (g : Gph s) : sumTo (trl s) (s 1) ≤ 159984 := by
  have h := sumTo_le (f := trl s) (c := 9999) (n := s 1) (fun k hk => by
    have p := g.2.2 k hk
    unfold pOk at p
    unfold trl
    omega)
  have h2 : s 1 * 9999 ≤ 16 * 9999 := Nat.mul_le_mul_right _ g.2.1
  omega
theorem oForget_inv {s : Nat → Nat} (i : Inv s) {r : Int32} {s' : Nat → Nat} (o : oForget s r s') : Inv s' ∧ nr r ∧ s' 1 = s 1 := by
  obtain ⟨h1, h2⟩ := o
  have lo : ∀ j, j < 30 → j ≠ 9 → s' j = s j := fun j h h' => by rw [h2, mapT_lo h, upN_n h']
  have e9 : s' 9 = 0 := by rw [h2, mapT_lo (by omega), upN_s]
  have hi : ∀ k w, w ≠ 3 → w < 6 → s' (30 + 6 * k + w) = s (30 + 6 * k + w) := fun k w h h' => by rw [h2, mapT_w h h', upN_n (by omega)]
  have tr : ∀ k, k < s 1 → s' (30 + 6 * k + 3) = s 17 := fun k hk => by rw [h2, mapT_3 hk]
  have i0 := i
  obtain ⟨⟨g0, g1, g2⟩, i2, i3, i4, i5⟩ := i
  have s2 := i2
  unfold sOk at s2
  have inv : Inv s' := by
    refine ⟨⟨by rw [lo 0 (by omega) (by omega)]; exact g0, by rw [lo 1 (by omega) (by omega)]; exact g1, fun q hq => ?_⟩, ?_, ?_, by rw [lo 8 (by omega) (by omega)]; exact i4, ?_⟩
    · rw [lo 1 (by omega) (by omega)] at hq
      have h := g2 q hq
      unfold pOk at h ⊢
      rw [lo 0 (by omega) (by omega), hi q 0 (by omega) (by omega), hi q 1 (by omega) (by omega), hi q 2 (by omega) (by omega), tr q hq, hi q 4 (by omega) (by omega)]
      exact ⟨h.1, h.2.1, h.2.2.1, h.2.2.2.1, h.2.2.2.2.1, by omega, by omega, h.2.2.2.2.2.2.2⟩
    · unfold sOk at i2 ⊢
      rw [lo 13 (by omega) (by omega), lo 14 (by omega) (by omega), lo 15 (by omega) (by omega), lo 16 (by omega) (by omega), lo 17 (by omega) (by omega), lo 18 (by omega) (by omega), lo 19 (by omega) (by omega)]
      exact i2
    · unfold fOk at i3 ⊢
      rw [lo 7 (by omega) (by omega), lo 0 (by omega) (by omega)]
      exact i3
    · exact ⟨fun h => absurd e9 h, by rw [lo 10 (by omega) (by omega)]; exact i5.2⟩
  have e1 := lo 1 (by omega) (by omega)
  have b1 := trl_le i0.1
  have b2 := trl_le inv.1
  rw [e1] at b2
  exact ⟨inv, by rw [h1]; exact nr_sub (by omega) (by omega), e1⟩
theorem begn {M : Mem} {s : Nat → Nat} {H : Nat → Nat → Nat} {n len : Nat} {T : Nat → Nat} (h : RfL M s H n len T) : ∃ f, upM M 108 (cp 146 (M 107) (M 108)) = upM M 108 (cp 146 (nf s) f) ∧ RfL (upM M 108 (cp 146 (nf s) f)) s H n len T := ⟨M 108, by rw [h.1], RfL_up h h.1 (fun o ho => upM_n (by omega)) rfl rfl⟩
section CHG
variable {σ : Sg} {M : Mem} {s s' : Nat → Nat} {H : Nat → Nat → Nat} {n len : Nat} {T : Nat → Nat} {r : Int32}
theorem chg (hm : IsM σ) (h : RfL M s H n len T) (hn : n ≤ 4) (hr : er r ∨ nr r) {f : Nat → Int32} {N : Mem} (e : N 107 = nf s') (fr : ∀ o, o ≠ 106 → o ≠ 107 → o ≠ 113 → o ≠ 114 → o ≠ 115 → N o = upM M 108 (cp 146 (nf s) f) o) (f4 : N 106 4 = M 106 4) (f6 : N 106 6 = M 106 6) : ∃ M', (∀ Q, wp 99 0 [some (.ref 106), some (.int r), none] [] σ N Q = Q (some (.int r)) σ M') ∧ RC M M' s s' H n len T r := by
  have hN : RfL N s' H n len T := RfL_up h e (fun o ho => by rw [fr o (by omega) (by omega) (by omega) (by omega) (by omega), upM_n (by omega)]) f4 f6
  obtain ⟨M', a1, a2⟩ := acts hm hr (s := s) (f := f) (by rw [fr 108 (by decide) (by decide) (by decide) (by decide) (by decide), upM_s]) hN hn
  exact ⟨M', a1, RC_fr a2 (fun o ho => by rw [fr o (by omega) (by omega) (by omega) (by omega) (by omega), upM_n (by omega)])⟩
theorem m126 (hm : IsM σ) (h : RfL M s H n len T) (hn : n ≤ 4) (i : Inv s) (o : oPlace s r s') : ∃ M', (∀ Q, wp 126 0 [some (.ref 106)] [] σ M Q = Q (some (.int r)) σ M') ∧ RC M M' s s' H n len T r := by
  have m := fun Q => m98 (M := M) (Q := Q) hm
  obtain ⟨f, b1, b2⟩ := begn h
  rw [b1] at m
  have hs := h.1
  have ok := oPlace_inv i o
  rcases o with ⟨h1, h2, h3⟩ | ⟨h1, h2, h3⟩
  · subst h2 h3
    refine ⟨M, fun Q => ?_, fun _ => ⟨s', fun _ _ => rfl, h⟩, fun q => (er_nr (Or.inr (Or.inr (Or.inl rfl))) q).elim, fun _ _ => rfl⟩
    simp only [k126_0, k126_1, k126_4, k126_5, k126_6, k126_8, k126_11, k126_13, k126_14, k126_15, k126_18, k126_19, k126_22, k126_23, k126_24, k126_25, k126_26, k126_27, k126_28, k126_29, k126_30, k126_33, k126_34, k126_35, k126_36, k126_37, k126_40, im_t106 hm, im_t107 hm, im_t108 hm, im_t109 hm, im_t110 hm, im_t111 hm, im_t112 hm, im_t113 hm, im_t114 hm, im_t115 hm, im_t116 hm, im_l107 hm, im_l108 hm, im_l109 hm, im_l110 hm, im_l111 hm, im_l112 hm, im_l113 hm, im_l114 hm, im_l115 hm, im_l116 hm, im_r0 hm, im_r1 hm, im_r2 hm, im_r3 hm, im_r5 hm, im_r7 hm, im_r14 hm, im_r15 hm, im_r16 hm, im_r22 hm, rf_s, pushR_s, pushR_n, le4_0, le4_1, le4_2, le4_3, le4_4, isLong_n, isLong_i, isLong_r, isLong_f, if_true, if_false, not_true_eq_false, not_false_eq_true, isI_0, isI_9, isAr_0, isAr_1, isAr_2, isAr_9, okR_i, okR_0, okR_1, putI_0, putI_b0, putI_b1, nI_10, nI_00, Nat.reduceLT, Nat.reduceLeDiff, nI_add, upM_s, upI_s, pk_mul, nf_at, hs, h1]
  · subst h2 h3
    have z : ¬ nI (s 0) = nI 10 := ne_n (by omega) (by omega) (by omega)
    have u1 : upM M 108 (cp 146 (nf s) f) 107 = nf s := hs
    have d : nI (s 0 + 1) - nI 1 = nI (s 0) := by rw [pk_sub (by omega)]; rfl
    obtain ⟨M', a1, a2⟩ := chg hm h hn (r := nI (s 0)) (Or.inr (nr_nI (by omega))) (f := f) (N := upM (upM M 108 (cp 146 (nf s) f)) 107 (nf (upN s 0 (s 0 + 1)))) upM_s (fun o _ h _ _ _ => upM_n h) rfl rfl
    refine ⟨M', fun Q => ?_, a2⟩
    simp only [k126_0, k126_1, k126_4, k126_5, k126_6, k126_8, k126_11, k126_13, k126_14, k126_15, k126_18, k126_19, k126_22, k126_23, k126_24, k126_25, k126_26, k126_27, k126_28, k126_29, k126_30, k126_33, k126_34, k126_35, k126_36, k126_37, k126_40, im_t106 hm, im_t107 hm, im_t108 hm, im_t109 hm, im_t110 hm, im_t111 hm, im_t112 hm, im_t113 hm, im_t114 hm, im_t115 hm, im_t116 hm, im_l107 hm, im_l108 hm, im_l109 hm, im_l110 hm, im_l111 hm, im_l112 hm, im_l113 hm, im_l114 hm, im_l115 hm, im_l116 hm, im_r0 hm, im_r1 hm, im_r2 hm, im_r3 hm, im_r5 hm, im_r7 hm, im_r14 hm, im_r15 hm, im_r16 hm, im_r22 hm, rf_s, pushR_s, pushR_n, le4_0, le4_1, le4_2, le4_3, le4_4, isLong_n, isLong_i, isLong_r, isLong_f, if_true, if_false, not_true_eq_false, not_false_eq_true, isI_0, isI_9, isAr_0, isAr_1, isAr_2, isAr_9, okR_i, okR_0, okR_1, putI_0, putI_b0, putI_b1, nI_10, nI_00, Nat.reduceLT, Nat.reduceLeDiff, nI_add, upM_s, upI_s, pk_mul, nf_at, hs, z, m, u1, upI_nf, upN_s, d, a1]
theorem m127 (hm : IsM σ) (h : RfL M s H n len T) (hn : n ≤ 4) (i : Inv s) {x y z : Int32} (o : oPath s x y z r s') : ∃ M', (∀ Q, wp 127 0 [some (.ref 106), some (.int x), some (.int y), some (.int z)] [] σ M Q = Q (some (.int r)) σ M') ∧ RC M M' s s' H n len T r := by
  have m := fun Q => m98 (M := M) (Q := Q) hm
  obtain ⟨f, b1, b2⟩ := begn h
  rw [b1] at m
  have ok := oPath_inv i o
  have m2 := fun Q => m120 (Q := Q) hm b2.1 i o
  obtain ⟨M', a1, a2⟩ := chg hm h hn (r := r) (s' := s') (by rcases ok.2 with q | q; exact Or.inl q.1; exact Or.inr q) (f := f) (N := upM (upM M 108 (cp 146 (nf s) f)) 107 (nf s')) upM_s (fun o _ h _ _ _ => upM_n h) rfl rfl
  refine ⟨M', fun Q => ?_, a2⟩
  simp only [k127_0, k127_1, k127_4, k127_5, k127_6, k127_7, k127_8, k127_9, k127_12, k127_15, im_t106 hm, im_t107 hm, im_t108 hm, im_t109 hm, im_t110 hm, im_t111 hm, im_t112 hm, im_t113 hm, im_t114 hm, im_t115 hm, im_t116 hm, im_l107 hm, im_l108 hm, im_l109 hm, im_l110 hm, im_l111 hm, im_l112 hm, im_l113 hm, im_l114 hm, im_l115 hm, im_l116 hm, im_r0 hm, im_r1 hm, im_r2 hm, im_r3 hm, im_r5 hm, im_r7 hm, im_r14 hm, im_r15 hm, im_r16 hm, im_r22 hm, rf_s, pushR_s, pushR_n, le4_0, le4_1, le4_2, le4_3, le4_4, isLong_n, isLong_i, isLong_r, isLong_f, if_true, if_false, not_true_eq_false, not_false_eq_true, isI_0, isI_9, isAr_0, isAr_1, isAr_2, isAr_9, okR_i, okR_0, okR_1, putI_0, putI_b0, putI_b1, nI_10, nI_00, Nat.reduceLT, Nat.reduceLeDiff, nI_add, upM_s, upI_s, pk_mul, nf_at, m, m2, a1]
theorem m128 (hm : IsM σ) (h : RfL M s H n len T) (hn : n ≤ 4) (i : Inv s) {x : Int32} {c : Nat} (hc : c ≤ 1) (o : oClose s x c r s') : ∃ M', (∀ Q, wp 128 0 [some (.ref 106), some (.int x), some (.int (nI c))] [] σ M Q = Q (some (.int r)) σ M') ∧ RC M M' s s' H n len T r := by
  have m := fun Q => m98 (M := M) (Q := Q) hm
  obtain ⟨f, b1, b2⟩ := begn h
  rw [b1] at m
  have ok := oClose_inv i hc o
  have m2 := fun Q => m121 (Q := Q) hm b2.1 i hc o
  obtain ⟨M', a1, a2⟩ := chg hm h hn (r := r) (s' := s') (by rcases ok.2 with q | q; exact Or.inl q.1; exact Or.inr q) (f := f) (N := upM (upM M 108 (cp 146 (nf s) f)) 107 (nf s')) upM_s (fun o _ h _ _ _ => upM_n h) rfl rfl
  refine ⟨M', fun Q => ?_, a2⟩
  rcases (show c = 0 ∨ c = 1 by omega) with e | e <;> subst e <;> simp only [k128_0, k128_1, k128_4, k128_5, k128_6, k128_7, k128_8, k128_11, k128_12, k128_15, k128_16, k128_19, k128_22, im_t106 hm, im_t107 hm, im_t108 hm, im_t109 hm, im_t110 hm, im_t111 hm, im_t112 hm, im_t113 hm, im_t114 hm, im_t115 hm, im_t116 hm, im_l107 hm, im_l108 hm, im_l109 hm, im_l110 hm, im_l111 hm, im_l112 hm, im_l113 hm, im_l114 hm, im_l115 hm, im_l116 hm, im_r0 hm, im_r1 hm, im_r2 hm, im_r3 hm, im_r5 hm, im_r7 hm, im_r14 hm, im_r15 hm, im_r16 hm, im_r22 hm, rf_s, pushR_s, pushR_n, le4_0, le4_1, le4_2, le4_3, le4_4, isLong_n, isLong_i, isLong_r, isLong_f, if_true, if_false, not_true_eq_false, not_false_eq_true, isI_0, isI_9, isAr_0, isAr_1, isAr_2, isAr_9, okR_i, okR_0, okR_1, putI_0, putI_b0, putI_b1, nI_10, nI_00, Nat.reduceLT, Nat.reduceLeDiff, nI_add, upM_s, upI_s, pk_mul, nf_at, m, m2, a1]
theorem m129 (hm : IsM σ) (h : RfL M s H n len T) (hn : n ≤ 4) (i : Inv s) {x : Int32} (o : oFood s x r s') : ∃ M', (∀ Q, wp 129 0 [some (.ref 106), some (.int x)] [] σ M Q = Q (some (.int r)) σ M') ∧ RC M M' s s' H n len T r := by
  have m := fun Q => m98 (M := M) (Q := Q) hm
  obtain ⟨f, b1, b2⟩ := begn h
  rw [b1] at m
  have ok := oFood_inv i o
  have m2 := fun Q => m122 (Q := Q) hm b2.1 i o
  obtain ⟨M', a1, a2⟩ := chg hm h hn (r := r) (s' := s') (by rcases ok.2 with q | q; exact Or.inl q.1; exact Or.inr q) (f := f) (N := upM (upM M 108 (cp 146 (nf s) f)) 107 (nf s')) upM_s (fun o _ h _ _ _ => upM_n h) rfl rfl
  refine ⟨M', fun Q => ?_, a2⟩
  simp only [k129_0, k129_1, k129_4, k129_5, k129_6, k129_7, k129_10, k129_13, im_t106 hm, im_t107 hm, im_t108 hm, im_t109 hm, im_t110 hm, im_t111 hm, im_t112 hm, im_t113 hm, im_t114 hm, im_t115 hm, im_t116 hm, im_l107 hm, im_l108 hm, im_l109 hm, im_l110 hm, im_l111 hm, im_l112 hm, im_l113 hm, im_l114 hm, im_l115 hm, im_l116 hm, im_r0 hm, im_r1 hm, im_r2 hm, im_r3 hm, im_r5 hm, im_r7 hm, im_r14 hm, im_r15 hm, im_r16 hm, im_r22 hm, rf_s, pushR_s, pushR_n, le4_0, le4_1, le4_2, le4_3, le4_4, isLong_n, isLong_i, isLong_r, isLong_f, if_true, if_false, not_true_eq_false, not_false_eq_true, isI_0, isI_9, isAr_0, isAr_1, isAr_2, isAr_9, okR_i, okR_0, okR_1, putI_0, putI_b0, putI_b1, nI_10, nI_00, Nat.reduceLT, Nat.reduceLeDiff, nI_add, upM_s, upI_s, pk_mul, nf_at, m, m2, a1]
theorem m130 (hm : IsM σ) (h : RfL M s H n len T) (hn : n ≤ 4) (i : Inv s) {x : Int32} (o : oLap s x r s') : ∃ M', (∀ Q, wp 130 0 [some (.ref 106), some (.int x)] [] σ M Q = Q (some (.int r)) σ M') ∧ RC M M' s s' H n len T r := by
  have m := fun Q => m98 (M := M) (Q := Q) hm
  obtain ⟨f, b1, b2⟩ := begn h
  rw [b1] at m
  have ok := oLap_inv i o
  obtain ⟨N, c1, c2, c3, c4⟩ := m123 hm b2.1 i o
  obtain ⟨M', a1, a2⟩ := chg hm h hn (r := r) (s' := s') (by rcases ok.2 with q | q; exact Or.inl q.1; exact Or.inr q) (f := f) (N := N) c2 c3 (by rw [c4 4 (by omega)]; rfl) (by rw [c4 6 (by omega)]; rfl)
  refine ⟨M', fun Q => ?_, a2⟩
  simp only [k130_0, k130_1, k130_4, k130_5, k130_6, k130_7, k130_10, k130_13, im_t106 hm, im_t107 hm, im_t108 hm, im_t109 hm, im_t110 hm, im_t111 hm, im_t112 hm, im_t113 hm, im_t114 hm, im_t115 hm, im_t116 hm, im_l107 hm, im_l108 hm, im_l109 hm, im_l110 hm, im_l111 hm, im_l112 hm, im_l113 hm, im_l114 hm, im_l115 hm, im_l116 hm, im_r0 hm, im_r1 hm, im_r2 hm, im_r3 hm, im_r5 hm, im_r7 hm, im_r14 hm, im_r15 hm, im_r16 hm, im_r22 hm, rf_s, pushR_s, pushR_n, le4_0, le4_1, le4_2, le4_3, le4_4, isLong_n, isLong_i, isLong_r, isLong_f, if_true, if_false, not_true_eq_false, not_false_eq_true, isI_0, isI_9, isAr_0, isAr_1, isAr_2, isAr_9, okR_i, okR_0, okR_1, putI_0, putI_b0, putI_b1, nI_10, nI_00, Nat.reduceLT, Nat.reduceLeDiff, nI_add, upM_s, upI_s, pk_mul, nf_at, m, c1, a1]
theorem m132 (hm : IsM σ) (h : RfL M s H n len T) (hn : n ≤ 4) (i : Inv s) {x y : Int32} (o : oSet s x y r s') : ∃ M', (∀ Q, wp 132 0 [some (.ref 106), some (.int x), some (.int y)] [] σ M Q = Q (some (.int r)) σ M') ∧ RC M M' s s' H n len T r := by
  have m := fun Q => m98 (M := M) (Q := Q) hm
  obtain ⟨f, b1, b2⟩ := begn h
  rw [b1] at m
  have ok := oSet_inv i o
  have m2 := fun Q => m125 (Q := Q) hm b2.1 o
  obtain ⟨M', a1, a2⟩ := chg hm h hn (r := r) (s' := s') (by rcases ok.2 with q | q; exact Or.inl q.1; exact Or.inr q) (f := f) (N := upM (upM M 108 (cp 146 (nf s) f)) 107 (nf s')) upM_s (fun o _ h _ _ _ => upM_n h) rfl rfl
  refine ⟨M', fun Q => ?_, a2⟩
  simp only [k132_0, k132_1, k132_4, k132_5, k132_6, k132_7, k132_8, k132_11, k132_14, im_t106 hm, im_t107 hm, im_t108 hm, im_t109 hm, im_t110 hm, im_t111 hm, im_t112 hm, im_t113 hm, im_t114 hm, im_t115 hm, im_t116 hm, im_l107 hm, im_l108 hm, im_l109 hm, im_l110 hm, im_l111 hm, im_l112 hm, im_l113 hm, im_l114 hm, im_l115 hm, im_l116 hm, im_r0 hm, im_r1 hm, im_r2 hm, im_r3 hm, im_r5 hm, im_r7 hm, im_r14 hm, im_r15 hm, im_r16 hm, im_r22 hm, rf_s, pushR_s, pushR_n, le4_0, le4_1, le4_2, le4_3, le4_4, isLong_n, isLong_i, isLong_r, isLong_f, if_true, if_false, not_true_eq_false, not_false_eq_true, isI_0, isI_9, isAr_0, isAr_1, isAr_2, isAr_9, okR_i, okR_0, okR_1, putI_0, putI_b0, putI_b1, nI_10, nI_00, Nat.reduceLT, Nat.reduceLeDiff, nI_add, upM_s, upI_s, pk_mul, nf_at, m, m2, a1]
theorem m131 (hm : IsM σ) (h : RfL M s H n len T) (hn : n ≤ 4) (i : Inv s) (o : oForget s r s') : ∃ M', (∀ Q, wp 131 0 [some (.ref 106), none, none] [] σ M Q = Q (some (.int r)) σ M') ∧ RC M M' s s' H n len T r := by
  have m := fun Q => m98 (M := M) (Q := Q) hm
  obtain ⟨f, b1, b2⟩ := begn h
  rw [b1] at m
  obtain ⟨inv, hr, e1⟩ := oForget_inv i o
  have g1 := i.1.2.1
  have m1 := fun Q => m109 (Q := Q) hm b2.1 g1
  obtain ⟨o1, o2⟩ := o
  obtain ⟨M', a1, a2⟩ := chg hm h hn (r := r) (s' := s') (Or.inr hr) (f := f) (N := upM (upM M 108 (cp 146 (nf s) f)) 107 (nf s')) upM_s (fun o _ h _ _ _ => upM_n h) rfl rfl
  refine ⟨M', fun Q => ?_, a2⟩
  have b3 := b2.1
  generalize upM M 108 (cp 146 (nf s) f) = N at *
  simp only [k131_0, k131_1, k131_4, k131_5, k131_8, k131_9, k131_10, k131_13, k131_15, k131_16, k131_17, k131_18, im_t106 hm, im_t107 hm, im_t108 hm, im_t109 hm, im_t110 hm, im_t111 hm, im_t112 hm, im_t113 hm, im_t114 hm, im_t115 hm, im_t116 hm, im_l107 hm, im_l108 hm, im_l109 hm, im_l110 hm, im_l111 hm, im_l112 hm, im_l113 hm, im_l114 hm, im_l115 hm, im_l116 hm, im_r0 hm, im_r1 hm, im_r2 hm, im_r3 hm, im_r5 hm, im_r7 hm, im_r14 hm, im_r15 hm, im_r16 hm, im_r22 hm, rf_s, pushR_s, pushR_n, le4_0, le4_1, le4_2, le4_3, le4_4, isLong_n, isLong_i, isLong_r, isLong_f, if_true, if_false, not_true_eq_false, not_false_eq_true, isI_0, isI_9, isAr_0, isAr_1, isAr_2, isAr_9, okR_i, okR_0, okR_1, putI_0, putI_b0, putI_b1, nI_10, nI_00, Nat.reduceLT, Nat.reduceLeDiff, nI_add, upM_s, upI_s, pk_mul, nf_at, m, m1, b3, upI_nf]
  rw [show upM N 107 (nf (upN s 9 0)) = upM N 107 (nf (mapT (upN s 9 0) 0 (fun _ => s 17))) by rw [mapT_0]]
  refine (wp_up (n := s 1) (fun k => [some (.ref 106), some (.int (nI (sumTo (trl s) (s 1)))), some (.int (nI k))]) (fun k => upM N 107 (nf (mapT (upN s 9 0) k (fun _ => s 17)))) Q (fun k hk => ?_)).trans ?_
  · have e : nI k < nI (s 1) := nI_lt hk (by omega)
    have q1 : mapT (upN s 9 0) k (fun _ => s 17) 1 = s 1 := mapT_lo (by omega)
    have q17 : mapT (upN s 9 0) k (fun _ => s 17) 17 = s 17 := mapT_lo (by omega)
    have m3 := fun x Q => m103 (M := upM N 107 (nf (mapT (upN s 9 0) k (fun _ => s 17)))) (x := x) (Q := Q) hm (k := k) (w := 3) (by omega) (by omega)
    have up := mapT_up (s := upN s 9 0) (f := fun _ => s 17) (n := k)
    rw [k131_19]
    simp only [k131_20, k131_21, k131_24, k131_25, k131_26, k131_29, k131_30, k131_31, k131_32, k131_33, k131_36, k131_38, k131_39, k131_42, k131_45, im_t106 hm, im_t107 hm, im_t108 hm, im_t109 hm, im_t110 hm, im_t111 hm, im_t112 hm, im_t113 hm, im_t114 hm, im_t115 hm, im_t116 hm, im_l107 hm, im_l108 hm, im_l109 hm, im_l110 hm, im_l111 hm, im_l112 hm, im_l113 hm, im_l114 hm, im_l115 hm, im_l116 hm, im_r0 hm, im_r1 hm, im_r2 hm, im_r3 hm, im_r5 hm, im_r7 hm, im_r14 hm, im_r15 hm, im_r16 hm, im_r22 hm, rf_s, pushR_s, pushR_n, le4_0, le4_1, le4_2, le4_3, le4_4, isLong_n, isLong_i, isLong_r, isLong_f, if_true, if_false, not_true_eq_false, not_false_eq_true, isI_0, isI_9, isAr_0, isAr_1, isAr_2, isAr_9, okR_i, okR_0, okR_1, putI_0, putI_b0, putI_b1, nI_10, nI_00, Nat.reduceLT, Nat.reduceLeDiff, nI_add, upM_s, upI_s, pk_mul, nf_at, q1, q17, e, m3, upI_nf, upM_up, up]
  · rw [← o2]
    have e : ¬ nI (s 1) < nI (s 1) := nI_nlt (Nat.le_refl _) (by omega)
    have m4 := fun Q => m109 (M := upM N 107 (nf s')) (Q := Q) hm upM_s inv.1.2.1
    rw [e1] at m4
    rw [k131_19]
    simp only [k131_20, k131_21, k131_24, k131_25, k131_26, k131_29, k131_30, k131_31, k131_32, k131_33, k131_36, k131_38, k131_39, k131_42, k131_45, k131_48, k131_49, k131_50, k131_51, k131_54, k131_55, k131_58, im_t106 hm, im_t107 hm, im_t108 hm, im_t109 hm, im_t110 hm, im_t111 hm, im_t112 hm, im_t113 hm, im_t114 hm, im_t115 hm, im_t116 hm, im_l107 hm, im_l108 hm, im_l109 hm, im_l110 hm, im_l111 hm, im_l112 hm, im_l113 hm, im_l114 hm, im_l115 hm, im_l116 hm, im_r0 hm, im_r1 hm, im_r2 hm, im_r3 hm, im_r5 hm, im_r7 hm, im_r14 hm, im_r15 hm, im_r16 hm, im_r22 hm, rf_s, pushR_s, pushR_n, le4_0, le4_1, le4_2, le4_3, le4_4, isLong_n, isLong_i, isLong_r, isLong_f, if_true, if_false, not_true_eq_false, not_false_eq_true, isI_0, isI_9, isAr_0, isAr_1, isAr_2, isAr_9, okR_i, okR_0, okR_1, putI_0, putI_b0, putI_b1, nI_10, nI_00, Nat.reduceLT, Nat.reduceLeDiff, nI_add, upM_s, upI_s, pk_mul, nf_at, e1, e, m4, ← o1, a1]
end CHG
