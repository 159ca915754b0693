def rFault (T : Nat → Nat) (len : Nat) (s : Nat → Nat) (x r : Int32) : Prop := (∃ w, w ≤ 2 ∧ x = nI w ∧ ∃ u t, Run T len 61 s 0 0 u t ∧ (u.1 = 0 ∧ r = -1000000004 ∨ u.1 ≠ 0 ∧ r = (if w = 0 then nI u.2.1 else if w = 1 then nI u.1 else u.2.2.1))) ∨ (¬ qIn x 2) ∧ r = -1000000001
theorem rFault_ex {T : Nat → Nat} {len : Nat} {s : Nat → Nat} (i : Inv s) (hl : len ≤ 60) (x : Int32) : ∃ r, rFault T len s x r := by
  by_cases h : qIn x 2
  · obtain ⟨w, hw, e⟩ := h
    obtain ⟨u, t, h2⟩ := Run_ex (T := T) (len := len) 61 s 0 0 i (by omega) (by omega)
    by_cases h3 : u.1 = 0
    · exact ⟨_, Or.inl ⟨w, hw, e, u, t, h2, Or.inl ⟨h3, rfl⟩⟩⟩
    · exact ⟨_, Or.inl ⟨w, hw, e, u, t, h2, Or.inr ⟨h3, rfl⟩⟩⟩
  · exact ⟨_, Or.inr ⟨h, rfl⟩⟩
def oPlay (T : Nat → Nat) (len : Nat) (s : Nat → Nat) (r : Int32) (s' : Nat → Nat) : Prop := ∃ u, Run T len 61 s 0 0 u s' ∧ (u.1 = 0 ∧ r = nI u.2.2.2 ∨ u.1 ≠ 0 ∧ r = -1000000002)
theorem oPlay_ex {T : Nat → Nat} {len : Nat} {s : Nat → Nat} (i : Inv s) (hl : len ≤ 60) : ∃ r s', oPlay T len s r s' := by
  obtain ⟨u, t, h2⟩ := Run_ex (T := T) (len := len) 61 s 0 0 i (by omega) (by omega)
  by_cases h3 : u.1 = 0
  · exact ⟨_, t, u, h2, Or.inl ⟨h3, rfl⟩⟩
  · exact ⟨_, t, u, h2, Or.inr ⟨h3, rfl⟩⟩
section TXT
variable {σ : Sg} {M : Mem} {s s' : Nat → Nat} {H : Nat → Nat → Nat} {n len : Nat} {T : Nat → Nat} {r : Int32}
theorem m157 (hm : IsM σ) {u : Nat × Nat × Int32 × Nat} {t : Nat → Nat} (h : Run T len 61 s 0 0 u t) (i : Inv s) (hs : M 107 = nf s) (tx : Tx M len T) : ∃ M', (∀ Q, wp 157 0 [some (.ref 106), none] [] σ M Q = Q (some (.int (if u.1 = 0 then nI 1 else nI 0))) σ M') ∧ M' 107 = nf t ∧ (u.1 = 0 → M' 106 19 = nI u.2.2.2) ∧ (u.1 = 1 → M' 106 21 = nI 0 ∧ M' 106 18 = nI u.2.1 ∧ ∃ q, M' 106 17 = nI q ∧ u.2.1 ≤ q ∧ u.2.2.1 = nI (q - u.2.1)) ∧ (u.1 = 2 → M' 106 21 = nI 1 ∧ M' 106 18 = nI u.2.1 ∧ M' 106 20 = u.2.2.1) ∧ (∀ o, o ≠ 106 → o ≠ 107 → o ≠ 113 → o ≠ 114 → o ≠ 115 → o ≠ 116 → M' o = M o) ∧ (∀ i, i < 8 → M' 106 i = M 106 i) := by
  obtain ⟨M', a1, a2, a3, a4, a5, a6, a7⟩ := m157L hm 61 s 0 0 u t (upM M 106 (upI (upI (M 106) 17 (nI 0)) 19 (nI 0))) none h i hs rfl rfl ⟨tx.1, tx.2.1, tx.2.2⟩ (Nat.zero_le _)
  refine ⟨M', fun Q => ?_, a2, a3, a4, a5, fun o h h2 h3 h4 h5 h6 => by rw [a6 o h h2 h3 h4 h5 h6, upM_n h], fun i h => by rw [a7 i h, upM_s, upI_n (by omega), upI_n (by omega)]⟩
  refine Eq.trans ?_ (a1 Q)
  simp only [k157_0, k157_1, k157_2, k157_5, k157_6, k157_7, im_t106 hm, im_t107 hm, im_t108 hm, im_t109 hm, im_t110 hm, im_t111 hm, im_t112 hm, im_t113 hm, im_t114 hm, im_t115 hm, im_t116 hm, im_l107 hm, im_l108 hm, im_l109 hm, im_l110 hm, im_l111 hm, im_l112 hm, im_l113 hm, im_l114 hm, im_l115 hm, im_l116 hm, im_r0 hm, im_r1 hm, im_r2 hm, im_r3 hm, im_r5 hm, im_r7 hm, im_r14 hm, im_r15 hm, im_r16 hm, im_r22 hm, rf_s, pushR_s, pushR_n, le4_0, le4_1, le4_2, le4_3, le4_4, isLong_n, isLong_i, isLong_r, isLong_f, if_true, if_false, not_true_eq_false, not_false_eq_true, isI_0, isI_9, isAr_0, isAr_1, isAr_2, isAr_9, okR_i, okR_0, okR_1, putI_0, putI_b0, putI_b1, nI_10, nI_00, Nat.reduceLT, Nat.reduceLeDiff, nI_add, upM_s, upI_s, pk_mul, nf_at, upM_up]
theorem tx_of (h : RfL M s H n len T) (hl : len ≤ 60) (hT : ∀ j, j < len → T j ≤ 126) : Tx M len T := ⟨h.2.2.2.1, h.2.2.2.2, hl, hT⟩
theorem m158 (hm : IsM σ) (h : RfL M s H n len T) (hl : len ≤ 60) (hT : ∀ j, j < len → T j ≤ 126) (i : Inv s) {x : Int32} (o : rFault T len s x r) : ∃ M', (∀ Q, wp 158 0 [some (.ref 106), some (.int x), none] [] σ M Q = Q (some (.int r)) σ M') ∧ RQ M M' s := by
  rcases o with ⟨w, hw, e, u, t, hR, hr⟩ | ⟨h2, e⟩
  · subst e
    have il := inI_w (n := 2) (by omega) hw
    have m := fun Q => m98 (M := M) (Q := Q) hm
    obtain ⟨f, b1, b2⟩ := begn h
    rw [b1] at m
    have inv := Run_inv 61 s 0 0 u t i hR
    obtain ⟨N, a1, a2, a3, a4, a5, a6, a7⟩ := m157 hm hR i b2.1 (tx_of b2 hl hT)
    have c2 := fun Q => m97 (M := N) (Q := Q) (σ := σ) (a := 108) (b := 107) (by decide) (im_t108 hm) (im_t107 hm) (im_l108 hm) (im_l107 hm)
    have e8 : N 108 = cp 146 (nf s) f := by rw [a6 108 (by decide) (by decide) (by decide) (by decide) (by decide) (by decide), upM_s]
    rw [e8, a2, cp_mix] at c2
    have u1 : ∀ f, upM N 107 f 106 = N 106 := fun f => rfl
    refine ⟨upM N 107 (nf (mix s t)), fun Q => ?_, ⟨_, mix_e, upM_s⟩, fun o ho => ?_, ?_, ?_⟩
    · rcases (show u.1 = 0 ∨ u.1 = 1 ∨ u.1 = 2 by omega) with c | c | c
      · rcases hr with ⟨_, hr⟩ | ⟨q, hr⟩
        · subst hr
          simp only [k158_0, k158_1, k158_2, k158_3, k158_6, k158_9, k158_11, k158_12, k158_13, k158_16, k158_17, k158_20, k158_21, k158_22, k158_25, k158_26, k158_29, k158_32, k158_33, k158_36, k158_38, k158_39, k158_40, k158_43, k158_44, k158_47, k158_50, k158_51, k158_52, k158_55, k158_56, k158_59, k158_62, k158_63, k158_66, k158_67, k158_70, k158_71, k158_74, k158_77, k158_78, k158_81, k158_84, k158_85, k158_88, k158_89, k158_92, k158_93, im_t106 hm, im_t107 hm, im_t108 hm, im_t109 hm, im_t110 hm, im_t111 hm, im_t112 hm, im_t113 hm, im_t114 hm, im_t115 hm, im_t116 hm, im_l107 hm, im_l108 hm, im_l109 hm, im_l110 hm, im_l111 hm, im_l112 hm, im_l113 hm, im_l114 hm, im_l115 hm, im_l116 hm, im_r0 hm, im_r1 hm, im_r2 hm, im_r3 hm, im_r5 hm, im_r7 hm, im_r14 hm, im_r15 hm, im_r16 hm, im_r22 hm, rf_s, pushR_s, pushR_n, le4_0, le4_1, le4_2, le4_3, le4_4, isLong_n, isLong_i, isLong_r, isLong_f, if_true, if_false, not_true_eq_false, not_false_eq_true, isI_0, isI_9, isAr_0, isAr_1, isAr_2, isAr_9, okR_i, okR_0, okR_1, putI_0, putI_b0, putI_b1, nI_10, nI_00, Nat.reduceLT, Nat.reduceLeDiff, nI_add, upM_s, upI_s, pk_mul, nf_at, m95, il, m, a1, c, c2]
        · exact absurd c q
      · rcases hr with ⟨q, hr⟩ | ⟨q, hr⟩
        · omega
        · subst hr
          obtain ⟨d1, d2, q, d3, d4, d5⟩ := a4 c
          have sb := pk_sub (a := q) (b := u.2.1) d4
          have z1 : ¬ nI 2 = 0 := by decide
          have z2 : ¬ nI 2 = nI 1 := by decide
          rcases (show w = 0 ∨ w = 1 ∨ w = 2 by omega) with e | e | e <;> subst e <;> simp only [k158_0, k158_1, k158_2, k158_3, k158_6, k158_9, k158_11, k158_12, k158_13, k158_16, k158_17, k158_20, k158_21, k158_22, k158_25, k158_26, k158_29, k158_32, k158_33, k158_36, k158_38, k158_39, k158_40, k158_43, k158_44, k158_47, k158_50, k158_51, k158_52, k158_55, k158_56, k158_59, k158_62, k158_63, k158_66, k158_67, k158_70, k158_71, k158_74, k158_77, k158_78, k158_81, k158_84, k158_85, k158_88, k158_89, k158_92, k158_93, im_t106 hm, im_t107 hm, im_t108 hm, im_t109 hm, im_t110 hm, im_t111 hm, im_t112 hm, im_t113 hm, im_t114 hm, im_t115 hm, im_t116 hm, im_l107 hm, im_l108 hm, im_l109 hm, im_l110 hm, im_l111 hm, im_l112 hm, im_l113 hm, im_l114 hm, im_l115 hm, im_l116 hm, im_r0 hm, im_r1 hm, im_r2 hm, im_r3 hm, im_r5 hm, im_r7 hm, im_r14 hm, im_r15 hm, im_r16 hm, im_r22 hm, rf_s, pushR_s, pushR_n, le4_0, le4_1, le4_2, le4_3, le4_4, isLong_n, isLong_i, isLong_r, isLong_f, if_true, if_false, not_true_eq_false, not_false_eq_true, isI_0, isI_9, isAr_0, isAr_1, isAr_2, isAr_9, okR_i, okR_0, okR_1, putI_0, putI_b0, putI_b1, nI_10, nI_00, Nat.reduceLT, Nat.reduceLeDiff, nI_add, upM_s, upI_s, pk_mul, nf_at, m95, il, m, a1, c, c2, u1, d1, d2, d3, d5, sb, z1, z2, Nat.reduceEqDiff]
      · rcases hr with ⟨q, hr⟩ | ⟨q, hr⟩
        · omega
        · subst hr
          obtain ⟨d1, d2, d3⟩ := a5 c
          have z1 : ¬ nI 2 = 0 := by decide
          have z2 : ¬ nI 2 = nI 1 := by decide
          rcases (show w = 0 ∨ w = 1 ∨ w = 2 by omega) with e | e | e <;> subst e <;> simp only [k158_0, k158_1, k158_2, k158_3, k158_6, k158_9, k158_11, k158_12, k158_13, k158_16, k158_17, k158_20, k158_21, k158_22, k158_25, k158_26, k158_29, k158_32, k158_33, k158_36, k158_38, k158_39, k158_40, k158_43, k158_44, k158_47, k158_50, k158_51, k158_52, k158_55, k158_56, k158_59, k158_62, k158_63, k158_66, k158_67, k158_70, k158_71, k158_74, k158_77, k158_78, k158_81, k158_84, k158_85, k158_88, k158_89, k158_92, k158_93, im_t106 hm, im_t107 hm, im_t108 hm, im_t109 hm, im_t110 hm, im_t111 hm, im_t112 hm, im_t113 hm, im_t114 hm, im_t115 hm, im_t116 hm, im_l107 hm, im_l108 hm, im_l109 hm, im_l110 hm, im_l111 hm, im_l112 hm, im_l113 hm, im_l114 hm, im_l115 hm, im_l116 hm, im_r0 hm, im_r1 hm, im_r2 hm, im_r3 hm, im_r5 hm, im_r7 hm, im_r14 hm, im_r15 hm, im_r16 hm, im_r22 hm, rf_s, pushR_s, pushR_n, le4_0, le4_1, le4_2, le4_3, le4_4, isLong_n, isLong_i, isLong_r, isLong_f, if_true, if_false, not_true_eq_false, not_false_eq_true, isI_0, isI_9, isAr_0, isAr_1, isAr_2, isAr_9, okR_i, okR_0, okR_1, putI_0, putI_b0, putI_b1, nI_10, nI_00, Nat.reduceLT, Nat.reduceLeDiff, nI_add, upM_s, upI_s, pk_mul, nf_at, m95, il, m, a1, c, c2, u1, d1, d2, d3, z1, z2, Nat.reduceEqDiff]
    · rw [upM_n (by omega), a6 o (by omega) (by omega) (by omega) (by omega) (by omega) (by omega), upM_n (by omega)]
    · rw [upM_n (by decide), a7 4 (by omega)]; rfl
    · rw [upM_n (by decide), a7 6 (by omega)]; rfl
  · subst e
    refine ⟨M, fun Q => ?_, RQ_r h.1⟩
    have il := inI_q (n := 2) (by omega) h2
    simp only [k158_0, k158_1, k158_2, k158_3, k158_6, k158_9, k158_11, k158_12, k158_13, k158_16, k158_17, k158_20, k158_21, k158_22, k158_25, k158_26, k158_29, k158_32, k158_33, k158_36, k158_38, k158_39, k158_40, k158_43, k158_44, k158_47, k158_50, k158_51, k158_52, k158_55, k158_56, k158_59, k158_62, k158_63, k158_66, k158_67, k158_70, k158_71, k158_74, k158_77, k158_78, k158_81, k158_84, k158_85, k158_88, k158_89, k158_92, k158_93, im_t106 hm, im_t107 hm, im_t108 hm, im_t109 hm, im_t110 hm, im_t111 hm, im_t112 hm, im_t113 hm, im_t114 hm, im_t115 hm, im_t116 hm, im_l107 hm, im_l108 hm, im_l109 hm, im_l110 hm, im_l111 hm, im_l112 hm, im_l113 hm, im_l114 hm, im_l115 hm, im_l116 hm, im_r0 hm, im_r1 hm, im_r2 hm, im_r3 hm, im_r5 hm, im_r7 hm, im_r14 hm, im_r15 hm, im_r16 hm, im_r22 hm, rf_s, pushR_s, pushR_n, le4_0, le4_1, le4_2, le4_3, le4_4, isLong_n, isLong_i, isLong_r, isLong_f, if_true, if_false, not_true_eq_false, not_false_eq_true, isI_0, isI_9, isAr_0, isAr_1, isAr_2, isAr_9, okR_i, okR_0, okR_1, putI_0, putI_b0, putI_b1, nI_10, nI_00, Nat.reduceLT, Nat.reduceLeDiff, nI_add, upM_s, upI_s, pk_mul, nf_at, m95, il]
theorem oPlay_inv (i : Inv s) (o : oPlay T len s r s') : Inv s' ∧ (er r ∨ nr r) := by
  obtain ⟨u, hR, hr⟩ := o
  have inv := Run_inv 61 s 0 0 u s' i hR
  refine ⟨inv.1, ?_⟩
  rcases hr with ⟨c, e⟩ | ⟨c, e⟩
  · rw [e]; exact Or.inr (nr_nI (by omega))
  · rw [e]; exact Or.inl (Or.inr (Or.inl rfl))
theorem m159 (hm : IsM σ) (h : RfL M s H n len T) (hn : n ≤ 4) (hl : len ≤ 60) (hT : ∀ j, j < len → T j ≤ 126) (i : Inv s) (o : oPlay T len s r s') : ∃ M', (∀ Q, wp 159 0 [some (.ref 106)] [] σ M Q = Q (some (.int r)) σ M') ∧ RC M M' s s' H n len T r := by
  have ok := oPlay_inv i o
  obtain ⟨u, hR, hr⟩ := o
  have m := fun Q => m98 (M := M) (Q := Q) hm
  obtain ⟨f, b1, b2⟩ := begn h
  rw [b1] at m
  obtain ⟨N, a1, a2, a3, a4, a5, a6, a7⟩ := m157 hm hR i b2.1 (tx_of b2 hl hT)
  have hN : RfL N s' H n len T := RfL_up b2 a2 (fun o ho => a6 o (by omega) (by omega) (by omega) (by omega) (by omega) (by omega)) (a7 4 (by omega)) (a7 6 (by omega))
  obtain ⟨M', c1, c2⟩ := acts hm ok.2 (s := s) (f := f) (by rw [a6 108 (by decide) (by decide) (by decide) (by decide) (by decide) (by decide), upM_s]) hN hn
  refine ⟨M', fun Q => ?_, RC_fr c2 (fun o ho => by rw [a6 o (by omega) (by omega) (by omega) (by omega) (by omega) (by omega), upM_n (by omega)])⟩
  rcases hr with ⟨c, e⟩ | ⟨c, e⟩
  · subst e
    have a3' := a3 c
    simp only [k159_0, k159_1, k159_4, k159_5, k159_6, k159_9, k159_12, k159_13, k159_16, k159_19, k159_21, k159_24, im_t106 hm, im_t107 hm, im_t108 hm, im_t109 hm, im_t110 hm, im_t111 hm, im_t112 hm, im_t113 hm, im_t114 hm, im_t115 hm, im_t116 hm, im_l107 hm, im_l108 hm, im_l109 hm, im_l110 hm, im_l111 hm, im_l112 hm, im_l113 hm, im_l114 hm, im_l115 hm, im_l116 hm, im_r0 hm, im_r1 hm, im_r2 hm, im_r3 hm, im_r5 hm, im_r7 hm, im_r14 hm, im_r15 hm, im_r16 hm, im_r22 hm, rf_s, pushR_s, pushR_n, le4_0, le4_1, le4_2, le4_3, le4_4, isLong_n, isLong_i, isLong_r, isLong_f, if_true, if_false, not_true_eq_false, not_false_eq_true, isI_0, isI_9, isAr_0, isAr_1, isAr_2, isAr_9, okR_i, okR_0, okR_1, putI_0, putI_b0, putI_b1, nI_10, nI_00, Nat.reduceLT, Nat.reduceLeDiff, nI_add, upM_s, upI_s, pk_mul, nf_at, m, a1, c, a3', c1]
  · subst e
    simp only [k159_0, k159_1, k159_4, k159_5, k159_6, k159_9, k159_12, k159_13, k159_16, k159_19, k159_21, k159_24, im_t106 hm, im_t107 hm, im_t108 hm, im_t109 hm, im_t110 hm, im_t111 hm, im_t112 hm, im_t113 hm, im_t114 hm, im_t115 hm, im_t116 hm, im_l107 hm, im_l108 hm, im_l109 hm, im_l110 hm, im_l111 hm, im_l112 hm, im_l113 hm, im_l114 hm, im_l115 hm, im_l116 hm, im_r0 hm, im_r1 hm, im_r2 hm, im_r3 hm, im_r5 hm, im_r7 hm, im_r14 hm, im_r15 hm, im_r16 hm, im_r22 hm, rf_s, pushR_s, pushR_n, le4_0, le4_1, le4_2, le4_3, le4_4, isLong_n, isLong_i, isLong_r, isLong_f, if_true, if_false, not_true_eq_false, not_false_eq_true, isI_0, isI_9, isAr_0, isAr_1, isAr_2, isAr_9, okR_i, okR_0, okR_1, putI_0, putI_b0, putI_b1, nI_10, nI_00, Nat.reduceLT, Nat.reduceLeDiff, nI_add, upM_s, upI_s, pk_mul, nf_at, m, a1, c, c1]
end TXT
