def aM (M : Mem) (d : Nat → Nat) : Mem := upM M 112 (cp 10 (nf d) (M 112))
theorem aM_at {M : Mem} {d : Nat → Nat} {j : Nat} (h : j < 10) : aM M d 112 j = nI (d j) := by
  show (upM M 112 (cp 10 (nf d) (M 112))) 112 j = _
  rw [upM_s]
  exact if_pos h
theorem aM_up {M : Mem} {d : Nat → Nat} {j x : Nat} (h : j < 10) : upM (aM M d) 112 (upI (aM M d 112) j (nI x)) = aM M (upN d j x) := by
  unfold aM
  rw [upM_s, upM_up]
  refine congrArg (upM M 112) (funext fun i => ?_)
  unfold upI cp nf upN
  by_cases c : i = j
  · rw [if_pos c, if_pos c, if_pos (by omega)]
  · rw [if_neg c, if_neg c]
theorem m110u {σ : Sg} {M : Mem} (hm : IsM σ) {q : Nat → Nat} (hq : ∀ p, q p ≤ 1000) {a b l : Nat} (ha : a < 10) (hb : b < 10) (hl : l ≤ 1000) (l1 l2 l3 : Option Value) (Q : Po) : wp 110 93 [some (.ref 106), l1, l2, l3, some (.int (nI a)), some (.int (nI b)), some (.int (nI l))] [] σ (aM M q) Q = wp 110 187 [some (.ref 106), l1, l2, l3, some (.int (nI a)), some (.int (nI b)), some (.int (nI l))] [] σ (aM M (up1 (up1 q a b l) b a l)) Q := by
  have step : ∀ (d : Nat → Nat) (u v : Nat), d u ≤ 1000 → d v ≤ 1000 → (d u + l < d v ∧ nI (d u + l) < nI (d v) ∧ up1 d v u l = upN d v (d u + l)) ∨ (¬ nI (d u + l) < nI (d v) ∧ up1 d v u l = upN d v (d v)) := fun d u v h1 h2 => by
    by_cases c : d u + l < d v
    · exact Or.inl ⟨c, nI_lt c (by omega), by unfold up1; rw [if_pos c]⟩
    · exact Or.inr ⟨nI_nlt (by omega) (by omega), by unfold up1; rw [if_neg c]⟩
  have h1 : ∀ p, up1 q a b l p ≤ 1000 := fun p => Nat.le_trans up1_le (hq p)
  have at_ : ∀ d, ∀ j, j < 10 → aM M d 112 j = nI (d j) := fun d j h => aM_at h
  have up_ : ∀ d x j, j < 10 → upM (aM M d) 112 (upI (aM M d 112) j (nI x)) = aM M (upN d j x) := fun d x j h => aM_up h
  rcases step q b a (hq b) (hq a) with ⟨_, c1, e1⟩ | ⟨c1, e1⟩
  · rcases step (up1 q a b l) a b (h1 a) (h1 b) with ⟨_, c2, e2⟩ | ⟨c2, e2⟩
    · rw [e2]
      rw [e1] at c2 ⊢
      simp only [k110_93, k110_94, k110_97, k110_99, k110_100, k110_103, k110_105, k110_106, k110_108, k110_109, k110_110, k110_113, k110_115, k110_116, k110_119, k110_120, k110_123, k110_125, k110_126, k110_128, k110_129, k110_132, k110_133, k110_136, k110_138, k110_139, k110_140, k110_141, k110_144, k110_146, k110_147, k110_150, k110_152, k110_153, k110_155, k110_156, k110_157, k110_160, k110_162, k110_163, k110_166, k110_167, k110_170, k110_172, k110_173, k110_175, k110_176, k110_179, k110_180, k110_183, k110_185, k110_186, im_t106 hm, im_t107 hm, im_t108 hm, im_t109 hm, im_t110 hm, im_t111 hm, im_t112 hm, im_t113 hm, im_t114 hm, im_t115 hm, im_t116 hm, im_l107 hm, im_l108 hm, im_l109 hm, im_l110 hm, im_l111 hm, im_l112 hm, im_l113 hm, im_l114 hm, im_l115 hm, im_l116 hm, im_r0 hm, im_r1 hm, im_r2 hm, im_r3 hm, im_r5 hm, im_r7 hm, im_r14 hm, im_r15 hm, im_r16 hm, im_r22 hm, rf_s, pushR_s, pushR_n, le4_0, le4_1, le4_2, le4_3, le4_4, isLong_n, isLong_i, isLong_r, isLong_f, if_true, if_false, not_true_eq_false, not_false_eq_true, isI_0, isI_9, isAr_0, isAr_1, isAr_2, isAr_9, okR_i, okR_0, okR_1, putI_0, putI_b0, putI_b1, nI_10, nI_00, Nat.reduceLT, Nat.reduceLeDiff, nI_add, upM_s, upI_s, pk_mul, nf_at, at_ _ a ha, at_ _ b hb, up_ _ _ a ha, up_ _ _ b hb, ha, hb, c1, c2]
    · rw [e2]
      rw [e1] at c2 ⊢
      simp only [k110_93, k110_94, k110_97, k110_99, k110_100, k110_103, k110_105, k110_106, k110_108, k110_109, k110_110, k110_113, k110_115, k110_116, k110_119, k110_120, k110_123, k110_125, k110_126, k110_128, k110_129, k110_132, k110_133, k110_136, k110_138, k110_139, k110_140, k110_141, k110_144, k110_146, k110_147, k110_150, k110_152, k110_153, k110_155, k110_156, k110_157, k110_160, k110_162, k110_163, k110_166, k110_167, k110_170, k110_172, k110_173, k110_175, k110_176, k110_179, k110_180, k110_183, k110_185, k110_186, im_t106 hm, im_t107 hm, im_t108 hm, im_t109 hm, im_t110 hm, im_t111 hm, im_t112 hm, im_t113 hm, im_t114 hm, im_t115 hm, im_t116 hm, im_l107 hm, im_l108 hm, im_l109 hm, im_l110 hm, im_l111 hm, im_l112 hm, im_l113 hm, im_l114 hm, im_l115 hm, im_l116 hm, im_r0 hm, im_r1 hm, im_r2 hm, im_r3 hm, im_r5 hm, im_r7 hm, im_r14 hm, im_r15 hm, im_r16 hm, im_r22 hm, rf_s, pushR_s, pushR_n, le4_0, le4_1, le4_2, le4_3, le4_4, isLong_n, isLong_i, isLong_r, isLong_f, if_true, if_false, not_true_eq_false, not_false_eq_true, isI_0, isI_9, isAr_0, isAr_1, isAr_2, isAr_9, okR_i, okR_0, okR_1, putI_0, putI_b0, putI_b1, nI_10, nI_00, Nat.reduceLT, Nat.reduceLeDiff, nI_add, upM_s, upI_s, pk_mul, nf_at, at_ _ a ha, at_ _ b hb, up_ _ _ a ha, up_ _ _ b hb, ha, hb, c1, c2]
  · rcases step (up1 q a b l) a b (h1 a) (h1 b) with ⟨_, c2, e2⟩ | ⟨c2, e2⟩
    · rw [e2]
      rw [e1] at c2 ⊢
      simp only [k110_93, k110_94, k110_97, k110_99, k110_100, k110_103, k110_105, k110_106, k110_108, k110_109, k110_110, k110_113, k110_115, k110_116, k110_119, k110_120, k110_123, k110_125, k110_126, k110_128, k110_129, k110_132, k110_133, k110_136, k110_138, k110_139, k110_140, k110_141, k110_144, k110_146, k110_147, k110_150, k110_152, k110_153, k110_155, k110_156, k110_157, k110_160, k110_162, k110_163, k110_166, k110_167, k110_170, k110_172, k110_173, k110_175, k110_176, k110_179, k110_180, k110_183, k110_185, k110_186, im_t106 hm, im_t107 hm, im_t108 hm, im_t109 hm, im_t110 hm, im_t111 hm, im_t112 hm, im_t113 hm, im_t114 hm, im_t115 hm, im_t116 hm, im_l107 hm, im_l108 hm, im_l109 hm, im_l110 hm, im_l111 hm, im_l112 hm, im_l113 hm, im_l114 hm, im_l115 hm, im_l116 hm, im_r0 hm, im_r1 hm, im_r2 hm, im_r3 hm, im_r5 hm, im_r7 hm, im_r14 hm, im_r15 hm, im_r16 hm, im_r22 hm, rf_s, pushR_s, pushR_n, le4_0, le4_1, le4_2, le4_3, le4_4, isLong_n, isLong_i, isLong_r, isLong_f, if_true, if_false, not_true_eq_false, not_false_eq_true, isI_0, isI_9, isAr_0, isAr_1, isAr_2, isAr_9, okR_i, okR_0, okR_1, putI_0, putI_b0, putI_b1, nI_10, nI_00, Nat.reduceLT, Nat.reduceLeDiff, nI_add, upM_s, upI_s, pk_mul, nf_at, at_ _ a ha, at_ _ b hb, up_ _ _ a ha, up_ _ _ b hb, ha, hb, c1, c2]
    · rw [e2]
      rw [e1] at c2 ⊢
      simp only [k110_93, k110_94, k110_97, k110_99, k110_100, k110_103, k110_105, k110_106, k110_108, k110_109, k110_110, k110_113, k110_115, k110_116, k110_119, k110_120, k110_123, k110_125, k110_126, k110_128, k110_129, k110_132, k110_133, k110_136, k110_138, k110_139, k110_140, k110_141, k110_144, k110_146, k110_147, k110_150, k110_152, k110_153, k110_155, k110_156, k110_157, k110_160, k110_162, k110_163, k110_166, k110_167, k110_170, k110_172, k110_173, k110_175, k110_176, k110_179, k110_180, k110_183, k110_185, k110_186, im_t106 hm, im_t107 hm, im_t108 hm, im_t109 hm, im_t110 hm, im_t111 hm, im_t112 hm, im_t113 hm, im_t114 hm, im_t115 hm, im_t116 hm, im_l107 hm, im_l108 hm, im_l109 hm, im_l110 hm, im_l111 hm, im_l112 hm, im_l113 hm, im_l114 hm, im_l115 hm, im_l116 hm, im_r0 hm, im_r1 hm, im_r2 hm, im_r3 hm, im_r5 hm, im_r7 hm, im_r14 hm, im_r15 hm, im_r16 hm, im_r22 hm, rf_s, pushR_s, pushR_n, le4_0, le4_1, le4_2, le4_3, le4_4, isLong_n, isLong_i, isLong_r, isLong_f, if_true, if_false, not_true_eq_false, not_false_eq_true, isI_0, isI_9, isAr_0, isAr_1, isAr_2, isAr_9, okR_i, okR_0, okR_1, putI_0, putI_b0, putI_b1, nI_10, nI_00, Nat.reduceLT, Nat.reduceLeDiff, nI_add, upM_s, upI_s, pk_mul, nf_at, at_ _ a ha, at_ _ b hb, up_ _ _ a ha, up_ _ _ b hb, ha, hb, c1, c2]
theorem rds_le1 {s d : Nat → Nat} (h : ∀ p, d p ≤ 1000) (n p : Nat) : rds s d n p ≤ 1000 := Nat.le_trans (rds_le n) (h p)
theorem m110i {σ : Sg} {M : Mem} (hm : IsM σ) {s : Nat → Nat} (hs : M 107 = nf s) (g : Gph s) {p r : Nat} {d : Nat → Nat} (hd : ∀ p, d p ≤ 1000) (l4 l5 l6 : Option Value) : ∀ n, n ≤ s 1 → ∃ l4' l5' l6', ∀ Q, wp 110 45 [some (.ref 106), some (.int (nI p)), some (.int (nI r)), some (.int (nI 0)), l4, l5, l6] [] σ (aM M d) Q = wp 110 45 [some (.ref 106), some (.int (nI p)), some (.int (nI r)), some (.int (nI n)), l4', l5', l6'] [] σ (aM M (rds s d n)) Q
  | 0, _ => ⟨l4, l5, l6, fun _ => rfl⟩
  | n + 1, hn => by
    obtain ⟨k4, k5, k6, ih⟩ := m110i hm hs g hd l4 l5 l6 n (by omega)
    have g1 := g.2.1
    have hk : n < s 1 := by omega
    obtain ⟨e0, e1⟩ := pOk10 g hk
    have pk := g.2.2 n hk
    unfold pOk at pk
    have hb := rds_le1 (s := s) hd n
    have m0 := fun Q => m102 (M := aM M (rds s d n)) (Q := Q) hm (k := n) (w := 0) (by omega) (by omega)
    have m1 := fun Q => m102 (M := aM M (rds s d n)) (Q := Q) hm (k := n) (w := 1) (by omega) (by omega)
    have m2 := fun Q => m102 (M := aM M (rds s d n)) (Q := Q) hm (k := n) (w := 2) (by omega) (by omega)
    have hs' : aM M (rds s d n) 107 = nf s := hs
    have m4 := fun Q => m104 (Q := Q) hm hs' (k := n) (by omega) pk.2.2.2.2.2.2.2
    have e : nI n < nI (s 1) := nI_lt hk (by omega)
    refine ⟨some (.int (nI (s (30 + 6 * n + 0)))), some (.int (nI (s (30 + 6 * n + 1)))), some (.int (nI (if s (30 + 6 * n + 4) = 1 then 1000 else s (30 + 6 * n + 2)))), fun Q => ?_⟩
    rw [ih, show rds s d (n + 1) = rx s n (rds s d n) from rfl, k110_45]
    generalize rds s d n = q at *
    rcases (show s (30 + 6 * n + 4) = 0 ∨ s (30 + 6 * n + 4) = 1 by omega) with c | c
    · have er : rx s n q = up1 (up1 q (s (30 + 6 * n + 0)) (s (30 + 6 * n + 1)) (s (30 + 6 * n + 2))) (s (30 + 6 * n + 1)) (s (30 + 6 * n + 0)) (s (30 + 6 * n + 2)) := by
        unfold rx
        rw [if_neg (by omega)]
      rw [er]
      simp only [k110_46, k110_47, k110_50, k110_51, k110_52, k110_55, k110_56, k110_57, k110_58, k110_61, k110_63, k110_64, k110_65, k110_66, k110_69, k110_71, k110_72, k110_73, k110_76, k110_79, k110_80, k110_81, k110_82, k110_85, k110_88, k110_91, im_t106 hm, im_t107 hm, im_t108 hm, im_t109 hm, im_t110 hm, im_t111 hm, im_t112 hm, im_t113 hm, im_t114 hm, im_t115 hm, im_t116 hm, im_l107 hm, im_l108 hm, im_l109 hm, im_l110 hm, im_l111 hm, im_l112 hm, im_l113 hm, im_l114 hm, im_l115 hm, im_l116 hm, im_r0 hm, im_r1 hm, im_r2 hm, im_r3 hm, im_r5 hm, im_r7 hm, im_r14 hm, im_r15 hm, im_r16 hm, im_r22 hm, rf_s, pushR_s, pushR_n, le4_0, le4_1, le4_2, le4_3, le4_4, isLong_n, isLong_i, isLong_r, isLong_f, if_true, if_false, not_true_eq_false, not_false_eq_true, isI_0, isI_9, isAr_0, isAr_1, isAr_2, isAr_9, okR_i, okR_0, okR_1, putI_0, putI_b0, putI_b1, nI_10, nI_00, Nat.reduceLT, Nat.reduceLeDiff, nI_add, upM_s, upI_s, pk_mul, nf_at, hs', e, m0, m1, m2, m4, c, Nat.reduceSub, Nat.reduceEqDiff]
      rw [m110u hm hb e0 e1 (by omega)]
      simp only [k110_187, k110_190, rf_s, pushR_s, pushR_n, le4_0, le4_1, le4_2, le4_3, le4_4, isLong_n, isLong_i, isLong_r, isLong_f, if_true, if_false, not_true_eq_false, not_false_eq_true, isI_0, isI_9, isAr_0, isAr_1, isAr_2, isAr_9, okR_i, okR_0, okR_1, putI_0, putI_b0, putI_b1, nI_10, nI_00, Nat.reduceLT, Nat.reduceLeDiff, nI_add, upM_s, upI_s, pk_mul, nf_at]
    · have er : rx s n q = up1 (up1 q (s (30 + 6 * n + 0)) (s (30 + 6 * n + 1)) 1000) (s (30 + 6 * n + 1)) (s (30 + 6 * n + 0)) 1000 := by
        have up : ∀ u v, up1 q v u 1000 = q := fun u v => funext fun p => by
          have := hb v
          unfold up1 upN
          split
          · rename_i e
            rw [if_neg (by omega), e]
          · rfl
        rw [up, up]
        unfold rx
        rw [if_pos c]
      rw [er]
      simp only [k110_46, k110_47, k110_50, k110_51, k110_52, k110_55, k110_56, k110_57, k110_58, k110_61, k110_63, k110_64, k110_65, k110_66, k110_69, k110_71, k110_72, k110_73, k110_76, k110_79, k110_80, k110_81, k110_82, k110_85, k110_88, k110_91, im_t106 hm, im_t107 hm, im_t108 hm, im_t109 hm, im_t110 hm, im_t111 hm, im_t112 hm, im_t113 hm, im_t114 hm, im_t115 hm, im_t116 hm, im_l107 hm, im_l108 hm, im_l109 hm, im_l110 hm, im_l111 hm, im_l112 hm, im_l113 hm, im_l114 hm, im_l115 hm, im_l116 hm, im_r0 hm, im_r1 hm, im_r2 hm, im_r3 hm, im_r5 hm, im_r7 hm, im_r14 hm, im_r15 hm, im_r16 hm, im_r22 hm, rf_s, pushR_s, pushR_n, le4_0, le4_1, le4_2, le4_3, le4_4, isLong_n, isLong_i, isLong_r, isLong_f, if_true, if_false, not_true_eq_false, not_false_eq_true, isI_0, isI_9, isAr_0, isAr_1, isAr_2, isAr_9, okR_i, okR_0, okR_1, putI_0, putI_b0, putI_b1, nI_10, nI_00, Nat.reduceLT, Nat.reduceLeDiff, nI_add, upM_s, upI_s, pk_mul, nf_at, hs', e, m0, m1, m2, m4, c, Nat.reduceSub, Nat.reduceEqDiff]
      rw [m110u hm hb e0 e1 (by omega)]
      simp only [k110_187, k110_190, rf_s, pushR_s, pushR_n, le4_0, le4_1, le4_2, le4_3, le4_4, isLong_n, isLong_i, isLong_r, isLong_f, if_true, if_false, not_true_eq_false, not_false_eq_true, isI_0, isI_9, isAr_0, isAr_1, isAr_2, isAr_9, okR_i, okR_0, okR_1, putI_0, putI_b0, putI_b1, nI_10, nI_00, Nat.reduceLT, Nat.reduceLeDiff, nI_add, upM_s, upI_s, pk_mul, nf_at]
theorem m110r {σ : Sg} {M : Mem} (hm : IsM σ) {s : Nat → Nat} (hs : M 107 = nf s) (g : Gph s) {p : Nat} : ∀ r, r ≤ s 0 → ∃ l3 l4 l5 l6, ∀ Q, wp 110 33 [some (.ref 106), some (.int (nI p)), some (.int (nI 0)), none, none, none, none] [] σ (aM M D0) Q = wp 110 33 [some (.ref 106), some (.int (nI p)), some (.int (nI r)), l3, l4, l5, l6] [] σ (aM M (Dr s r)) Q
  | 0, _ => ⟨none, none, none, none, fun _ => rfl⟩
  | r + 1, hr => by
    obtain ⟨k3, k4, k5, k6, ih⟩ := m110r hm hs g r (by omega)
    have g0 := g.1
    have g1 := g.2.1
    obtain ⟨j4, j5, j6, h⟩ := m110i hm hs g (p := p) (r := r) (d := Dr s r) (fun p => Dr_le r) k4 k5 k6 (s 1) (Nat.le_refl _)
    have e : nI r < nI (s 0) := nI_lt (by omega) (by omega)
    have hs' : ∀ d, aM M d 107 = nf s := fun d => hs
    have e2 : ¬ nI (s 1) < nI (s 1) := nI_nlt (Nat.le_refl _) (by omega)
    refine ⟨some (.int (nI (s 1))), j4, j5, j6, fun Q => ?_⟩
    rw [ih, k110_33]
    simp only [k110_34, k110_35, k110_38, k110_39, k110_40, k110_43, k110_44, im_t106 hm, im_t107 hm, im_t108 hm, im_t109 hm, im_t110 hm, im_t111 hm, im_t112 hm, im_t113 hm, im_t114 hm, im_t115 hm, im_t116 hm, im_l107 hm, im_l108 hm, im_l109 hm, im_l110 hm, im_l111 hm, im_l112 hm, im_l113 hm, im_l114 hm, im_l115 hm, im_l116 hm, im_r0 hm, im_r1 hm, im_r2 hm, im_r3 hm, im_r5 hm, im_r7 hm, im_r14 hm, im_r15 hm, im_r16 hm, im_r22 hm, rf_s, pushR_s, pushR_n, le4_0, le4_1, le4_2, le4_3, le4_4, isLong_n, isLong_i, isLong_r, isLong_f, if_true, if_false, not_true_eq_false, not_false_eq_true, isI_0, isI_9, isAr_0, isAr_1, isAr_2, isAr_9, okR_i, okR_0, okR_1, putI_0, putI_b0, putI_b1, nI_10, nI_00, Nat.reduceLT, Nat.reduceLeDiff, nI_add, upM_s, upI_s, pk_mul, nf_at, hs', e]
    rw [h, k110_45]
    simp only [k110_46, k110_47, k110_50, k110_51, k110_52, k110_193, k110_196, im_t106 hm, im_t107 hm, im_t108 hm, im_t109 hm, im_t110 hm, im_t111 hm, im_t112 hm, im_t113 hm, im_t114 hm, im_t115 hm, im_t116 hm, im_l107 hm, im_l108 hm, im_l109 hm, im_l110 hm, im_l111 hm, im_l112 hm, im_l113 hm, im_l114 hm, im_l115 hm, im_l116 hm, im_r0 hm, im_r1 hm, im_r2 hm, im_r3 hm, im_r5 hm, im_r7 hm, im_r14 hm, im_r15 hm, im_r16 hm, im_r22 hm, rf_s, pushR_s, pushR_n, le4_0, le4_1, le4_2, le4_3, le4_4, isLong_n, isLong_i, isLong_r, isLong_f, if_true, if_false, not_true_eq_false, not_false_eq_true, isI_0, isI_9, isAr_0, isAr_1, isAr_2, isAr_9, okR_i, okR_0, okR_1, putI_0, putI_b0, putI_b1, nI_10, nI_00, Nat.reduceLT, Nat.reduceLeDiff, nI_add, upM_s, upI_s, pk_mul, nf_at, hs', e2, Dr]
def dist (s : Nat → Nat) (p : Nat) : Int32 := if Dr s (s 0) p < 1000 then nI (Dr s (s 0) p) else -1000000004
theorem m110 {σ : Sg} {M : Mem} (hm : IsM σ) {s : Nat → Nat} (hs : M 107 = nf s) (g : Gph s) {p : Nat} (hp : p < 10) (Q : Po) : wp 110 0 [some (.ref 106), some (.int (nI p)), none, none, none, none, none] [] σ M Q = Q (some (.int (dist s p))) σ (aM M (Dr s (s 0))) := by
  have g0 := g.1
  obtain ⟨l3, l4, l5, l6, h⟩ := m110r hm hs g (p := p) (s 0) (Nat.le_refl _)
  simp only [k110_0, k110_1, rf_s, pushR_s, pushR_n, le4_0, le4_1, le4_2, le4_3, le4_4, isLong_n, isLong_i, isLong_r, isLong_f, if_true, if_false, not_true_eq_false, not_false_eq_true, isI_0, isI_9, isAr_0, isAr_1, isAr_2, isAr_9, okR_i, okR_0, okR_1, putI_0, putI_b0, putI_b1, nI_10, nI_00, Nat.reduceLT, Nat.reduceLeDiff, nI_add, upM_s, upI_s, pk_mul, nf_at]
  rw [show wp 110 2 [some (.ref 106), some (.int (nI p)), some (.int (nI 0)), none, none, none, none] [] σ M Q = wp 110 2 [some (.ref 106), some (.int (nI p)), some (.int (nI 0)), none, none, none, none] [] σ (upM M 112 (cp 0 (nf D0) (M 112))) Q from by rw [cp_0, upM_self rfl]]
  refine (wp_up (n := 10) (fun k => [some (.ref 106), some (.int (nI p)), some (.int (nI k)), none, none, none, none]) (fun k => upM M 112 (cp k (nf D0) (M 112))) Q (fun k hk => ?_)).trans ?_
  · have e : nI k < nI 10 := nI_lt hk (by omega)
    have up := cp_up (f := nf D0) (g := M 112) (n := k)
    rw [k110_2]
    by_cases c : k = 0
    · subst c
      have up' : upI (cp 0 (nf D0) (M 112)) 0 (nI 0) = cp (0 + 1) (nf D0) (M 112) := up
      simp only [k110_3, k110_5, k110_8, k110_9, k110_12, k110_13, k110_14, k110_17, k110_18, k110_21, k110_24, k110_25, k110_28, im_t106 hm, im_t107 hm, im_t108 hm, im_t109 hm, im_t110 hm, im_t111 hm, im_t112 hm, im_t113 hm, im_t114 hm, im_t115 hm, im_t116 hm, im_l107 hm, im_l108 hm, im_l109 hm, im_l110 hm, im_l111 hm, im_l112 hm, im_l113 hm, im_l114 hm, im_l115 hm, im_l116 hm, im_r0 hm, im_r1 hm, im_r2 hm, im_r3 hm, im_r5 hm, im_r7 hm, im_r14 hm, im_r15 hm, im_r16 hm, im_r22 hm, rf_s, pushR_s, pushR_n, le4_0, le4_1, le4_2, le4_3, le4_4, isLong_n, isLong_i, isLong_r, isLong_f, if_true, if_false, not_true_eq_false, not_false_eq_true, isI_0, isI_9, isAr_0, isAr_1, isAr_2, isAr_9, okR_i, okR_0, okR_1, putI_0, putI_b0, putI_b1, nI_10, nI_00, Nat.reduceLT, Nat.reduceLeDiff, nI_add, upM_s, upI_s, pk_mul, nf_at, e, upM_up, up']
    · have z : ¬ nI k = 0 := nI_ne0 (by omega) (by omega)
      have up' : upI (cp k (nf D0) (M 112)) k (nI 1000) = cp (k + 1) (nf D0) (M 112) := by
        rw [← up]
        unfold nf D0
        rw [if_neg c]
      simp only [k110_3, k110_5, k110_8, k110_9, k110_12, k110_13, k110_14, k110_17, k110_18, k110_21, k110_24, k110_25, k110_28, im_t106 hm, im_t107 hm, im_t108 hm, im_t109 hm, im_t110 hm, im_t111 hm, im_t112 hm, im_t113 hm, im_t114 hm, im_t115 hm, im_t116 hm, im_l107 hm, im_l108 hm, im_l109 hm, im_l110 hm, im_l111 hm, im_l112 hm, im_l113 hm, im_l114 hm, im_l115 hm, im_l116 hm, im_r0 hm, im_r1 hm, im_r2 hm, im_r3 hm, im_r5 hm, im_r7 hm, im_r14 hm, im_r15 hm, im_r16 hm, im_r22 hm, rf_s, pushR_s, pushR_n, le4_0, le4_1, le4_2, le4_3, le4_4, isLong_n, isLong_i, isLong_r, isLong_f, if_true, if_false, not_true_eq_false, not_false_eq_true, isI_0, isI_9, isAr_0, isAr_1, isAr_2, isAr_9, okR_i, okR_0, okR_1, putI_0, putI_b0, putI_b1, nI_10, nI_00, Nat.reduceLT, Nat.reduceLeDiff, nI_add, upM_s, upI_s, pk_mul, nf_at, e, z, hk, upM_up, up']
  · have e : ¬ nI 10 < nI 10 := by decide
    have e2 : ¬ nI (s 0) < nI (s 0) := nI_nlt (Nat.le_refl _) (by omega)
    have hs' : ∀ d, aM M d 107 = nf s := fun d => hs
    have at_ : ∀ d, aM M d 112 p = nI (d p) := fun d => aM_at hp
    have hD := Dr_le (s := s) (p := p) (s 0)
    rw [k110_2]
    simp only [k110_3, k110_5, k110_8, k110_9, k110_12, k110_13, k110_14, k110_17, k110_18, k110_21, k110_24, k110_25, k110_28, k110_31, k110_32, rf_s, pushR_s, pushR_n, le4_0, le4_1, le4_2, le4_3, le4_4, isLong_n, isLong_i, isLong_r, isLong_f, if_true, if_false, not_true_eq_false, not_false_eq_true, isI_0, isI_9, isAr_0, isAr_1, isAr_2, isAr_9, okR_i, okR_0, okR_1, putI_0, putI_b0, putI_b1, nI_10, nI_00, Nat.reduceLT, Nat.reduceLeDiff, nI_add, upM_s, upI_s, pk_mul, nf_at, e]
    show wp 110 33 _ [] σ (aM M D0) Q = _
    rw [h, k110_33]
    by_cases c : Dr s (s 0) p < 1000
    · have e3 : nI (Dr s (s 0) p) < nI 1000 := nI_lt c (by omega)
      simp only [k110_34, k110_35, k110_38, k110_39, k110_40, k110_199, k110_200, k110_203, k110_204, k110_205, k110_208, k110_211, k110_212, k110_215, k110_216, k110_217, k110_220, k110_222, im_t106 hm, im_t107 hm, im_t108 hm, im_t109 hm, im_t110 hm, im_t111 hm, im_t112 hm, im_t113 hm, im_t114 hm, im_t115 hm, im_t116 hm, im_l107 hm, im_l108 hm, im_l109 hm, im_l110 hm, im_l111 hm, im_l112 hm, im_l113 hm, im_l114 hm, im_l115 hm, im_l116 hm, im_r0 hm, im_r1 hm, im_r2 hm, im_r3 hm, im_r5 hm, im_r7 hm, im_r14 hm, im_r15 hm, im_r16 hm, im_r22 hm, rf_s, pushR_s, pushR_n, le4_0, le4_1, le4_2, le4_3, le4_4, isLong_n, isLong_i, isLong_r, isLong_f, if_true, if_false, not_true_eq_false, not_false_eq_true, isI_0, isI_9, isAr_0, isAr_1, isAr_2, isAr_9, okR_i, okR_0, okR_1, putI_0, putI_b0, putI_b1, nI_10, nI_00, Nat.reduceLT, Nat.reduceLeDiff, nI_add, upM_s, upI_s, pk_mul, nf_at, hs', e2, at_, hp, e3, dist, c]
    · have e3 : ¬ nI (Dr s (s 0) p) < nI 1000 := nI_nlt (by omega) (by omega)
      simp only [k110_34, k110_35, k110_38, k110_39, k110_40, k110_199, k110_200, k110_203, k110_204, k110_205, k110_208, k110_211, k110_212, k110_215, k110_216, k110_217, k110_220, k110_222, im_t106 hm, im_t107 hm, im_t108 hm, im_t109 hm, im_t110 hm, im_t111 hm, im_t112 hm, im_t113 hm, im_t114 hm, im_t115 hm, im_t116 hm, im_l107 hm, im_l108 hm, im_l109 hm, im_l110 hm, im_l111 hm, im_l112 hm, im_l113 hm, im_l114 hm, im_l115 hm, im_l116 hm, im_r0 hm, im_r1 hm, im_r2 hm, im_r3 hm, im_r5 hm, im_r7 hm, im_r14 hm, im_r15 hm, im_r16 hm, im_r22 hm, rf_s, pushR_s, pushR_n, le4_0, le4_1, le4_2, le4_3, le4_4, isLong_n, isLong_i, isLong_r, isLong_f, if_true, if_false, not_true_eq_false, not_false_eq_true, isI_0, isI_9, isAr_0, isAr_1, isAr_2, isAr_9, okR_i, okR_0, okR_1, putI_0, putI_b0, putI_b1, nI_10, nI_00, Nat.reduceLT, Nat.reduceLeDiff, nI_add, upM_s, upI_s, pk_mul, nf_at, hs', e2, at_, hp, e3, dist, c]
