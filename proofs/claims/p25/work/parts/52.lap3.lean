section COL
variable {σ : Sg} {g : Nat}
theorem mkS_x {s : Nat → Nat} {x a b : Nat} : mkS (upN s 8 x) (upN s 8 x 8) a b = mkS s x a b := by
  funext j
  unfold mkS
  rw [upN_s]
  by_cases c : j = 8
  · rw [if_pos c, if_pos c]
  · rw [if_neg c, if_neg c, upN_n c]
theorem wlk_pos {s : Nat → Nat} (i : Inv s) (h2 : 2 ≤ s 0) (c : (wlk s).2.2 = 0) : 1 ≤ (wlk s).2.1.1 ∧ (wlk s).2.1.1 ≤ 180 := by
  obtain ⟨w1, w2, w3, w4⟩ := wlk_ok i h2
  have hw := w4 c
  have f7 := i.2.2.1.1
  obtain ⟨j1, j2, j3, j4, j5, j6, j7, j8, j9, j10⟩ := w2
  have m0 : (wlk s).2.1.2.1 ≠ 0 := fun e => by
    unfold hr at hw
    rw [e, j2] at hw
    omega
  omega
/-- one ant of a lap -/
theorem c30s {M : Mem} (ho : IsO σ) (hg : IsG σ g) (dg : g + 12 < 94) {s : Nat → Nat} (i : Inv s) (h2 : 2 ≤ s 0) {V : (Nat × Nat × Nat × Nat × (Nat → Nat))} (rv : RW M 95 V) (R : RG M g s) {L : Nat → Nat} (hL : ∀ k, k < 16 → M 97 k = nI (L k)) (x b a l n : Int32) (l7 : Option Value) (hn : n < a) : ∃ M' l7', (∀ Q, wp 30 52 [some (.ref 94), some (.ref g), some (.int x), some (.int b), some (.int a), some (.int l), some (.int n), l7] [] σ M Q = wp 30 52 [some (.ref 94), some (.ref g), some (.int x), some (.int b), some (.int a), some (.int l), some (.int (n + nI 1)), l7'] [] σ M' Q) ∧ RG M' g (stp s) ∧ (∃ V, RW M' 95 V) ∧ (∀ k, k < 16 → M' 97 k = nI (L k + if (wlk s).2.2 = 0 ∧ bit (wlk s).2.1.2.2.1 k = 1 then s 15 / (wlk s).2.1.1 else 0)) ∧ FC M M' g := by
  obtain ⟨M1, a1, a2, a3, a4, a5⟩ := c33 ho hg dg i (by omega) rv R
  obtain ⟨w1, w2, w3, w4⟩ := wlk_ok i h2
  have i1 := Inv_x i w1
  have dO : Out g 95 := Or.inr (by omega)
  have G := i.1
  obtain ⟨M2, b1, b2, b3⟩ := c59 hg (io_w ho) dO a3 a2 i1 (eqg_IW eqg_8 G w2) w3
  rw [mkS_x] at b2
  have b2' : RG M2 g (antS s) := b2
  have ak := antS_kp i h2
  have ia : Inv (antS s) := by
    have h := i.2.2.2.2
    refine Inv_kp i ak.1 ak.2.1 ?_
    have a3 := ak.2.2
    have a1 := ak.1
    unfold bOk at h ⊢
    rw [a3 9 (by omega) (by omega), a3 10 (by omega) (by omega), a3 12 (by omega) (by omega), a3 20 (by omega) (by omega), a1.1.1, a1.2.2.1]
    refine ⟨fun h9 => ?_, h.2⟩
    obtain ⟨q1, q2, q3, q4, q5, q6, q7⟩ := h.1 h9
    exact ⟨q1, q2, q3, q4, q5, q6, fun i hi => by rw [a3 (20 + i) (by omega) (by omega)]; exact q7 i hi⟩
  have rv2 : RW M2 95 (wlk s).2.1 := RW_fr a2 (b3 95 (by omega)) (b3 96 (by omega))
  have fr2 : FC M M2 g := FC_t a4 (FC_g b3)
  by_cases c : (wlk s).2.2 = 0
  · obtain ⟨p1, p2⟩ := wlk_pos i h2 c
    have m61 := fun Q => c61 (Q := Q) hg (io_w ho) b2' rv2 ia p1 p2
    have e15 : antS s 15 = s 15 := ak.1.2.2.2 15 (by omega) (by omega)
    rw [e15] at m61
    have hL2 : ∀ k, k < 16 → M2 97 k = nI (L k) := fun k hk => by rw [b3 97 (by omega), a5]; exact hL k hk
    have m32 := fun Q => c32 (Q := Q) (y := s 15 / (wlk s).2.1.1) ho rv2 w2.2.2.2.1 hL2
    generalize hM3 : upM M2 97 (cp 16 (fun k => nI (L k + if bit (wlk s).2.1.2.2.1 k = 1 then s 15 / (wlk s).2.1.1 else 0)) (M2 97)) = M3 at m32
    have r3 : RG M3 g (antS s) := RG_o b2' ia.2.2.2.2.2 (fun o h1 h2 => by rw [← hM3]; exact upM_n (by omega))
    have rv3 : RW M3 95 (wlk s).2.1 := RW_fr rv2 (by rw [← hM3]; exact upM_n (by decide)) (by rw [← hM3]; exact upM_n (by decide))
    obtain ⟨M4, d1, d2, d3⟩ := c60 hg (io_w ho) dO r3 rv3 ia (eqg_IW ak.1.1 G w2) p1 p2
    have est : stp s = bst (antS s) (wlk s).2.1 := if_pos c
    rw [est]
    rw [c] at a1 b1
    refine ⟨M4, some (.int (nI 0)), fun Q => ?_, d2, ⟨_, RW_fr rv3 (d3 95 (by omega)) (d3 96 (by omega))⟩, fun k hk => ?_, FC_t fr2 (FC_t (by rw [← hM3]; exact FC_u (by omega) (by omega)) (FC_g d3))⟩
    · rw [k30_52]
      have one : (1 : Int32) = nI 1 := rfl
      simp only [k30_54, k30_56, k30_59, k30_60, k30_61, k30_64, k30_66, k30_67, k30_68, k30_71, k30_73, k30_76, k30_78, k30_81, k30_82, k30_83, k30_84, k30_87, k30_90, k30_93, k30_94, k30_95, k30_98, k30_101, k30_104, io_t94 ho, io_r0 ho, io_r1 ho, io_r2 ho, io_t97 ho, io_l97 ho, io_t98 ho, io_l98 ho, iw_t0 (io_w ho), iw_t1 (io_w ho), iw_l1 (io_w ho), iw_r0 (io_w ho), ig_t0 hg, ig_t1 hg, ig_t2 hg, ig_t3 hg, ig_t4 hg, ig_t5 hg, ig_t6 hg, ig_t7 hg, ig_t8 hg, ig_t9 hg, ig_t10 hg, ig_t11 hg, ig_t12 hg, ig_l1 hg, ig_l2 hg, ig_l3 hg, ig_l4 hg, ig_l5 hg, ig_l6 hg, ig_l7 hg, ig_l8 hg, ig_l9 hg, ig_l10 hg, ig_l12 hg, ig_r1 hg, ig_r2 hg, ig_r4 hg, ig_r5 hg, ig_r6 hg, ig_r7 hg, ig_r8 hg, ig_r9 hg, ig_r12 hg, ig_r14 hg, ig_r15 hg, ig_rw hg, rf_s, pushR_s, pushR_n, le4_0, le4_1, le4_2, le4_3, le4_4, isLong_n, isLong_i, isLong_r, isLong_f, if_true, if_false, not_true_eq_false, not_false_eq_true, isI_0, isI_9, isAr_0, isAr_1, isAr_2, isAr_9, okR_i, okR_0, okR_1, putI_0, putI_b0, putI_b1, nI_10, nI_00, Nat.reduceLT, Nat.reduceLeDiff, nI_add, upM_s, upI_s, pk_mul, nf_at, hn, a1, b1, m61, m32, d1]
    · rw [d3 97 (by omega), ← hM3, upM_s, cp_lt hk]
      congr 2
      by_cases c2 : bit (wlk s).2.1.2.2.1 k = 1
      · rw [if_pos c2, if_pos ⟨c, c2⟩]
      · rw [if_neg c2, if_neg (fun h => c2 h.2)]
  · have z : ¬ nI (wlk s).2.2 = 0 := nI_ne0 (by omega) (by omega)
    have est : stp s = antS s := if_neg c
    rw [est]
    refine ⟨M2, some (.int (nI (wlk s).2.2)), fun Q => ?_, b2', ⟨_, rv2⟩, fun k hk => ?_, fr2⟩
    · rw [k30_52]
      simp only [k30_54, k30_56, k30_59, k30_60, k30_61, k30_64, k30_66, k30_67, k30_68, k30_71, k30_73, k30_76, k30_78, k30_81, k30_82, k30_83, k30_84, k30_87, k30_90, k30_93, k30_94, k30_95, k30_98, k30_101, k30_104, io_t94 ho, io_r0 ho, io_r1 ho, io_r2 ho, io_t97 ho, io_l97 ho, io_t98 ho, io_l98 ho, iw_t0 (io_w ho), iw_t1 (io_w ho), iw_l1 (io_w ho), iw_r0 (io_w ho), ig_t0 hg, ig_t1 hg, ig_t2 hg, ig_t3 hg, ig_t4 hg, ig_t5 hg, ig_t6 hg, ig_t7 hg, ig_t8 hg, ig_t9 hg, ig_t10 hg, ig_t11 hg, ig_t12 hg, ig_l1 hg, ig_l2 hg, ig_l3 hg, ig_l4 hg, ig_l5 hg, ig_l6 hg, ig_l7 hg, ig_l8 hg, ig_l9 hg, ig_l10 hg, ig_l12 hg, ig_r1 hg, ig_r2 hg, ig_r4 hg, ig_r5 hg, ig_r6 hg, ig_r7 hg, ig_r8 hg, ig_r9 hg, ig_r12 hg, ig_r14 hg, ig_r15 hg, ig_rw hg, rf_s, pushR_s, pushR_n, le4_0, le4_1, le4_2, le4_3, le4_4, isLong_n, isLong_i, isLong_r, isLong_f, if_true, if_false, not_true_eq_false, not_false_eq_true, isI_0, isI_9, isAr_0, isAr_1, isAr_2, isAr_9, okR_i, okR_0, okR_1, putI_0, putI_b0, putI_b1, nI_10, nI_00, Nat.reduceLT, Nat.reduceLeDiff, nI_add, upM_s, upI_s, pk_mul, nf_at, hn, a1, b1, z]
    · rw [b3 97 (by omega), a5, hL k hk, if_neg (fun h => c h.1)]; rfl
theorem c30A (ho : IsO σ) (hg : IsG σ g) (dg : g + 12 < 94) {s : Nat → Nat} (i : Inv s) (h2 : 2 ≤ s 0) (x b l : Int32) {M : Mem} {V : (Nat × Nat × Nat × Nat × (Nat → Nat))} (rv : RW M 95 V) (R : RG M g s) (hL : ∀ k, k < 16 → M 97 k = nI 0) (l7 : Option Value) : ∀ n, n ≤ s 13 → ∃ M' l7', (∀ Q, wp 30 52 [some (.ref 94), some (.ref g), some (.int x), some (.int b), some (.int (nI (s 13))), some (.int l), some (.int (nI 0)), l7] [] σ M Q = wp 30 52 [some (.ref 94), some (.ref g), some (.int x), some (.int b), some (.int (nI (s 13))), some (.int l), some (.int (nI n)), l7'] [] σ M' Q) ∧ RG M' g (lapA s n) ∧ (∃ V, RW M' 95 V) ∧ (∀ k, k < 16 → M' 97 k = nI (lapL s k n)) ∧ FC M M' g
  | 0, _ => ⟨M, l7, fun _ => rfl, R, ⟨V, rv⟩, hL, FC_r⟩
  | n + 1, hn => by
    obtain ⟨M1, l1, a1, a2, ⟨V1, a3⟩, a4, a5⟩ := c30A ho hg dg i h2 x b l rv R hL l7 n (by omega)
    obtain ⟨ia, ka⟩ := lapA_ok i h2 n
    have i2 := i.2.1
    unfold sOk at i2
    obtain ⟨M2, l2, b1, b2, b3, b4, b5⟩ := c30s ho hg dg ia (by rw [ka.1.1]; exact h2) a3 a2 a4 x b (nI (s 13)) l (nI n) l1 (nI_lt (by omega) (by omega))
    rw [nI_add] at b1
    have e15 : lapA s n 15 = s 15 := ka.2.2.2 15 (by omega) (by omega)
    rw [e15] at b4
    exact ⟨M2, l2, fun Q => by rw [a1, b1], b2, b3, b4, FC_t a5 b5⟩
theorem lapS_13 {s : Nat → Nat} (i : Inv s) (h2 : 2 ≤ s 0) : lapS s 13 = s 13 := by
  obtain ⟨a, b⟩ := lapA_ok i h2 (s 13)
  obtain ⟨e1, e2, e3, e4, e5⟩ := endS_ok (L := fun k => lapL s k (s 13)) a
  unfold lapS
  rw [e5 13 (by omega) (by omega), b.2.2.2 13 (by omega) (by omega)]
theorem lapN_13 {s : Nat → Nat} (i : Inv s) (h2 : 2 ≤ s 0) : ∀ n, lapN s n 13 = s 13
  | 0 => rfl
  | n + 1 => by
    obtain ⟨a, b, _⟩ := lapN_ok i h2 n
    show lapS (lapN s n) 13 = s 13
    rw [lapS_13 a (by omega), lapN_13 i h2 n]
theorem c30B (ho : IsO σ) (hg : IsG σ g) (dg : g + 12 < 94) {s : Nat → Nat} (i : Inv s) (h2 : 2 ≤ s 0) (b : Int32) {N : Nat} (hN : N ≤ 5) {M : Mem} {V : (Nat × Nat × Nat × Nat × (Nat → Nat))} (rv : RW M 95 V) (R : RG M g s) : ∀ n, n ≤ N → ∃ M' l6 l7, (∀ Q, wp 30 39 [some (.ref 94), some (.ref g), some (.int (nI N)), some (.int b), some (.int (nI (s 13))), some (.int (nI 0)), none, none] [] σ M Q = wp 30 39 [some (.ref 94), some (.ref g), some (.int (nI N)), some (.int b), some (.int (nI (s 13))), some (.int (nI n)), l6, l7] [] σ M' Q) ∧ RG M' g (lapN s n) ∧ (∃ V, RW M' 95 V) ∧ FC M M' g
  | 0, _ => ⟨M, none, none, fun _ => rfl, R, ⟨V, rv⟩, FC_r⟩
  | n + 1, hn => by
    obtain ⟨M1, l6, l7, a1, a2, ⟨V1, a3⟩, a4⟩ := c30B ho hg dg i h2 b hN rv R n (by omega)
    obtain ⟨ia, k0, _⟩ := lapN_ok i h2 n
    have h13 := lapN_13 i h2 n
    have h2' : 2 ≤ lapN s n 0 := by omega
    have m31 := fun Q => c31 (M := M1) (Q := Q) ho
    generalize hM2 : upM M1 97 (cp 16 (fun _ => nI 0) (M1 97)) = M2 at m31
    have r2 : RG M2 g (lapN s n) := RG_o a2 ia.2.2.2.2.2 (fun o h1 h2 => by rw [← hM2]; exact upM_n (by omega))
    have rv2 : RW M2 95 V1 := RW_fr a3 (by rw [← hM2]; exact upM_n (by decide)) (by rw [← hM2]; exact upM_n (by decide))
    have hL2 : ∀ k, k < 16 → M2 97 k = nI 0 := fun k hk => by rw [← hM2, upM_s, cp_lt hk]
    obtain ⟨M3, l8, b1, b2, ⟨V3, b3⟩, b4, b5⟩ := c30A ho hg dg ia h2' (nI N) b (nI n) rv2 r2 hL2 l7 (lapN s n 13) (Nat.le_refl _)
    rw [h13] at b1 b2 b4
    have i2 := i.2.1
    unfold sOk at i2
    obtain ⟨iA, kA⟩ := lapA_ok ia h2' (s 13)
    have iA2 := ia.2.1
    unfold sOk at iA2
    have bL : ∀ k, lapL (lapN s n) k (s 13) ≤ 10000 := fun k => Nat.le_trans (lapL_le (k := k) (by omega) _) (by omega)
    obtain ⟨M4, d1, d2, d3⟩ := c62 hg b2 iA (io_t97 ho) (io_l97 ho) (Or.inr (by omega)) b4 bL
    have e : nI n < nI N := nI_lt (by omega) (by omega)
    have e13 : ¬ nI (s 13) < nI (s 13) := nI_nlt (Nat.le_refl _) (by omega)
    have eq : lapN s (n + 1) = upN (mapT (lapA (lapN s n) (s 13)) (lapA (lapN s n) (s 13) 1) (fun k => clp (lapA (lapN s n) (s 13)) (evp (lapA (lapN s n) (s 13)) k + lapL (lapN s n) k (s 13) + onb (lapA (lapN s n) (s 13)) k))) 2 (lapA (lapN s n) (s 13) 2 + 1) := by
      show lapS (lapN s n) = _
      unfold lapS endS
      rw [h13]
    have elap := rg_laps d2
    rw [mapT_lo (by omega)] at elap
    have r5 := RG_up d2 (by rw [mapT_lo (by omega)]; exact iA.2.2.2.2.2) (j := 2) (x := lapA (lapN s n) (s 13) 2 + 1) (o := g) (i := 13) (by unfold J; omega) rfl rfl
    rw [← eq] at r5
    refine ⟨_, some (.int (nI (s 13))), l8, fun Q => ?_, r5, ⟨V3, RW_fr b3 ?_ ?_⟩, ?_⟩
    · rw [a1, k30_39]
      simp only [k30_41, k30_42, k30_45, k30_46, k30_49, k30_50, io_t94 ho, io_r0 ho, io_r1 ho, io_r2 ho, io_t97 ho, io_l97 ho, io_t98 ho, io_l98 ho, iw_t0 (io_w ho), iw_t1 (io_w ho), iw_l1 (io_w ho), iw_r0 (io_w ho), ig_t0 hg, ig_t1 hg, ig_t2 hg, ig_t3 hg, ig_t4 hg, ig_t5 hg, ig_t6 hg, ig_t7 hg, ig_t8 hg, ig_t9 hg, ig_t10 hg, ig_t11 hg, ig_t12 hg, ig_l1 hg, ig_l2 hg, ig_l3 hg, ig_l4 hg, ig_l5 hg, ig_l6 hg, ig_l7 hg, ig_l8 hg, ig_l9 hg, ig_l10 hg, ig_l12 hg, ig_r1 hg, ig_r2 hg, ig_r4 hg, ig_r5 hg, ig_r6 hg, ig_r7 hg, ig_r8 hg, ig_r9 hg, ig_r12 hg, ig_r14 hg, ig_r15 hg, ig_rw hg, rf_s, pushR_s, pushR_n, le4_0, le4_1, le4_2, le4_3, le4_4, isLong_n, isLong_i, isLong_r, isLong_f, if_true, if_false, not_true_eq_false, not_false_eq_true, isI_0, isI_9, isAr_0, isAr_1, isAr_2, isAr_9, okR_i, okR_0, okR_1, putI_0, putI_b0, putI_b1, nI_10, nI_00, Nat.reduceLT, Nat.reduceLeDiff, nI_add, upM_s, upI_s, pk_mul, nf_at, e, m31]
      rw [b1, k30_52]
      simp only [k30_54, k30_56, k30_107, k30_108, k30_109, k30_112, k30_115, k30_116i, k30_116r, k30_116f, k30_117, k30_120, k30_121, k30_122, k30_125, k30_128, io_t94 ho, io_r0 ho, io_r1 ho, io_r2 ho, io_t97 ho, io_l97 ho, io_t98 ho, io_l98 ho, iw_t0 (io_w ho), iw_t1 (io_w ho), iw_l1 (io_w ho), iw_r0 (io_w ho), ig_t0 hg, ig_t1 hg, ig_t2 hg, ig_t3 hg, ig_t4 hg, ig_t5 hg, ig_t6 hg, ig_t7 hg, ig_t8 hg, ig_t9 hg, ig_t10 hg, ig_t11 hg, ig_t12 hg, ig_l1 hg, ig_l2 hg, ig_l3 hg, ig_l4 hg, ig_l5 hg, ig_l6 hg, ig_l7 hg, ig_l8 hg, ig_l9 hg, ig_l10 hg, ig_l12 hg, ig_r1 hg, ig_r2 hg, ig_r4 hg, ig_r5 hg, ig_r6 hg, ig_r7 hg, ig_r8 hg, ig_r9 hg, ig_r12 hg, ig_r14 hg, ig_r15 hg, ig_rw hg, rf_s, pushR_s, pushR_n, le4_0, le4_1, le4_2, le4_3, le4_4, isLong_n, isLong_i, isLong_r, isLong_f, if_true, if_false, not_true_eq_false, not_false_eq_true, isI_0, isI_9, isAr_0, isAr_1, isAr_2, isAr_9, okR_i, okR_0, okR_1, putI_0, putI_b0, putI_b1, nI_10, nI_00, Nat.reduceLT, Nat.reduceLeDiff, nI_add, upM_s, upI_s, pk_mul, nf_at, e13, d1, elap]
    · rw [upM_n (by omega), d3 95 (by omega)]
    · rw [upM_n (by omega), d3 96 (by omega)]
    · refine FC_t a4 (FC_t ?_ (FC_t b5 (FC_t (FC_g d3) (FC_g (FG_u (by omega) (by omega))))))
      rw [← hM2]
      exact FC_u (by omega) (by omega)
theorem c30 (ho : IsO σ) (hg : IsG σ g) (dg : g + 12 < 94) {s s' : Nat → Nat} (i : Inv s) {M : Mem} {V : (Nat × Nat × Nat × Nat × (Nat → Nat))} (rv : RW M 95 V) (R : RG M g s) {x r : Int32} (o : oLap s x r s') : ∃ M', (∀ Q, wp 30 0 [some (.ref 94), some (.ref g), some (.int x), none, none, none, none, none] [] σ M Q = Q (some (.int r)) σ M') ∧ RG M' g s' ∧ (∃ V, RW M' 95 V) ∧ FC M M' g := by
  have g0 := i.1.1
  have m40 := fun Q => c40 (Q := Q) hg R i
  rcases o with ⟨n, e, n1, n5, ⟨h1, h2, h3⟩ | ⟨h1, h2, h3⟩⟩ | ⟨h, e4, e5⟩
  · subst h2 h3
    refine ⟨M, fun Q => ?_, R, ⟨V, rv⟩, FC_r⟩
    have il := inI_c (v := x) (a := 1) (b := 5) (by omega) (by omega) n1 n5 e
    simp only [k30_0, k30_1, k30_2, k30_3, k30_6, k30_9, k30_11, k30_12, k30_13, k30_16, k30_19, k30_21, ig_t0 hg, ig_t1 hg, ig_t2 hg, ig_t3 hg, ig_t4 hg, ig_t5 hg, ig_t6 hg, ig_t7 hg, ig_t8 hg, ig_t9 hg, ig_t10 hg, ig_t11 hg, ig_t12 hg, ig_l1 hg, ig_l2 hg, ig_l3 hg, ig_l4 hg, ig_l5 hg, ig_l6 hg, ig_l7 hg, ig_l8 hg, ig_l9 hg, ig_l10 hg, ig_l12 hg, ig_r1 hg, ig_r2 hg, ig_r4 hg, ig_r5 hg, ig_r6 hg, ig_r7 hg, ig_r8 hg, ig_r9 hg, ig_r12 hg, ig_r14 hg, ig_r15 hg, ig_rw hg, rf_s, pushR_s, pushR_n, le4_0, le4_1, le4_2, le4_3, le4_4, isLong_n, isLong_i, isLong_r, isLong_f, if_true, if_false, not_true_eq_false, not_false_eq_true, isI_0, isI_9, isAr_0, isAr_1, isAr_2, isAr_9, okR_i, okR_0, okR_1, putI_0, putI_b0, putI_b1, nI_10, nI_00, Nat.reduceLT, Nat.reduceLeDiff, nI_add, upM_s, upI_s, pk_mul, nf_at, c24, il, m40, h1]
  · subst h2 h3
    obtain ⟨j1, j2, j3, j4⟩ := lapN_ok i h1 n
    have c2 : ¬ s 0 < 2 := by omega
    have il := inI_c (v := x) (a := 1) (b := 5) (by omega) (by omega) n1 n5 e
    subst e
    have m43 := fun Q => c43 (Q := Q) hg R (k := 0) (by omega)
    have e0 := rg_end R 0 (by omega)
    obtain ⟨M', l6, l7, a1, a2, a3, a4⟩ := c30B ho hg dg i h1 (nI (s 4)) (N := n) n5 rv R n (Nat.le_refl _)
    have e : ¬ nI n < nI n := nI_nlt (Nat.le_refl _) (by omega)
    have e4 := rg_end a2 0 (by omega)
    have d := pk_sub j3
    refine ⟨M', fun Q => ?_, a2, a3, a4⟩
    simp only [k30_0, k30_1, k30_2, k30_3, k30_6, k30_9, k30_11, k30_12, k30_13, k30_16, k30_19, k30_21, k30_22, k30_23, k30_26, k30_27, k30_28, k30_29, k30_30, k30_31, k30_34, k30_36, k30_37, io_t94 ho, io_r0 ho, io_r1 ho, io_r2 ho, io_t97 ho, io_l97 ho, io_t98 ho, io_l98 ho, iw_t0 (io_w ho), iw_t1 (io_w ho), iw_l1 (io_w ho), iw_r0 (io_w ho), ig_t0 hg, ig_t1 hg, ig_t2 hg, ig_t3 hg, ig_t4 hg, ig_t5 hg, ig_t6 hg, ig_t7 hg, ig_t8 hg, ig_t9 hg, ig_t10 hg, ig_t11 hg, ig_t12 hg, ig_l1 hg, ig_l2 hg, ig_l3 hg, ig_l4 hg, ig_l5 hg, ig_l6 hg, ig_l7 hg, ig_l8 hg, ig_l9 hg, ig_l10 hg, ig_l12 hg, ig_r1 hg, ig_r2 hg, ig_r4 hg, ig_r5 hg, ig_r6 hg, ig_r7 hg, ig_r8 hg, ig_r9 hg, ig_r12 hg, ig_r14 hg, ig_r15 hg, ig_rw hg, rf_s, pushR_s, pushR_n, le4_0, le4_1, le4_2, le4_3, le4_4, isLong_n, isLong_i, isLong_r, isLong_f, if_true, if_false, not_true_eq_false, not_false_eq_true, isI_0, isI_9, isAr_0, isAr_1, isAr_2, isAr_9, okR_i, okR_0, okR_1, putI_0, putI_b0, putI_b1, nI_10, nI_00, Nat.reduceLT, Nat.reduceLeDiff, nI_add, upM_s, upI_s, pk_mul, nf_at, c24, il, m40, c2, m43, e0, Nat.reduceAdd, Nat.reduceLT]
    rw [a1, k30_39]
    simp only [k30_41, k30_42, k30_131, k30_132, k30_135, k30_136, k30_137, k30_138, k30_139, io_t94 ho, io_r0 ho, io_r1 ho, io_r2 ho, io_t97 ho, io_l97 ho, io_t98 ho, io_l98 ho, iw_t0 (io_w ho), iw_t1 (io_w ho), iw_l1 (io_w ho), iw_r0 (io_w ho), ig_t0 hg, ig_t1 hg, ig_t2 hg, ig_t3 hg, ig_t4 hg, ig_t5 hg, ig_t6 hg, ig_t7 hg, ig_t8 hg, ig_t9 hg, ig_t10 hg, ig_t11 hg, ig_t12 hg, ig_l1 hg, ig_l2 hg, ig_l3 hg, ig_l4 hg, ig_l5 hg, ig_l6 hg, ig_l7 hg, ig_l8 hg, ig_l9 hg, ig_l10 hg, ig_l12 hg, ig_r1 hg, ig_r2 hg, ig_r4 hg, ig_r5 hg, ig_r6 hg, ig_r7 hg, ig_r8 hg, ig_r9 hg, ig_r12 hg, ig_r14 hg, ig_r15 hg, ig_rw hg, rf_s, pushR_s, pushR_n, le4_0, le4_1, le4_2, le4_3, le4_4, isLong_n, isLong_i, isLong_r, isLong_f, if_true, if_false, not_true_eq_false, not_false_eq_true, isI_0, isI_9, isAr_0, isAr_1, isAr_2, isAr_9, okR_i, okR_0, okR_1, putI_0, putI_b0, putI_b1, nI_10, nI_00, Nat.reduceLT, Nat.reduceLeDiff, nI_add, upM_s, upI_s, pk_mul, nf_at, e, e4, Nat.reduceAdd, Nat.reduceLT, d]
  · subst e4 e5
    refine ⟨M, fun Q => ?_, R, ⟨V, rv⟩, FC_r⟩
    have il := inI_d (v := x) (a := 1) (b := 5) (by omega) (by omega) h
    simp only [k30_0, k30_1, k30_2, k30_3, k30_6, k30_9, k30_11, k30_12, k30_13, k30_16, k30_19, k30_21, ig_t0 hg, ig_t1 hg, ig_t2 hg, ig_t3 hg, ig_t4 hg, ig_t5 hg, ig_t6 hg, ig_t7 hg, ig_t8 hg, ig_t9 hg, ig_t10 hg, ig_t11 hg, ig_t12 hg, ig_l1 hg, ig_l2 hg, ig_l3 hg, ig_l4 hg, ig_l5 hg, ig_l6 hg, ig_l7 hg, ig_l8 hg, ig_l9 hg, ig_l10 hg, ig_l12 hg, ig_r1 hg, ig_r2 hg, ig_r4 hg, ig_r5 hg, ig_r6 hg, ig_r7 hg, ig_r8 hg, ig_r9 hg, ig_r12 hg, ig_r14 hg, ig_r15 hg, ig_rw hg, rf_s, pushR_s, pushR_n, le4_0, le4_1, le4_2, le4_3, le4_4, isLong_n, isLong_i, isLong_r, isLong_f, if_true, if_false, not_true_eq_false, not_false_eq_true, isI_0, isI_9, isAr_0, isAr_1, isAr_2, isAr_9, okR_i, okR_0, okR_1, putI_0, putI_b0, putI_b1, nI_10, nI_00, Nat.reduceLT, Nat.reduceLeDiff, nI_add, upM_s, upI_s, pk_mul, nf_at, c24, il]
end COL
