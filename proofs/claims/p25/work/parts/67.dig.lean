/-! the law's small methods, and its digest -/
section DIG
variable {L : Nat} {xs : Nat → Int32} {σ : Sg} {M : Mem} {s : Nat → Nat} {H : Nat → Nat → Nat} {n len B : Nat} {T : Nat → Nat}
def lw (v : Int32) (m : Nat) : Nat := v.toBitVec.toNat % 2 ^ 31 % m
theorem lw_lt {v : Int32} {m : Nat} (h : 0 < m) : lw v m < m := Nat.mod_lt _ h
theorem l95 {v : Int32} {m : Nat} (h0 : 0 < m) (h : m < 2 ^ 31) (Q : Po) : wp 95 0 [some (.int v), some (.int (nI m))] [] σ M Q = Q (some (.int (nI (lw v m)))) σ M := by
  have a : v &&& nI 2147483647 = nI (v.toBitVec.toNat % 2 ^ 31) := pk_and v 31 (by decide)
  have b := Nat.mod_lt v.toBitVec.toNat (show 0 < 2 ^ 31 by decide)
  have c := pk_rem (a := v.toBitVec.toNat % 2 ^ 31) (d := m) b h0 h
  have z : ¬ nI m = 0 := nI_ne0 h0 h
  simp only [k95_0, k95_1, k95_3, k95_4, k95_5, k95_6, rf_s, pushR_s, pushR_n, le4_0, le4_1, le4_2, le4_3, le4_4, isLong_n, isLong_i, isLong_r, isLong_f, if_true, if_false, not_true_eq_false, not_false_eq_true, isI_0, isI_9, isAr_0, isAr_1, isAr_2, isAr_9, okR_i, okR_0, okR_1, putI_0, putI_b0, putI_b1, nI_10, nI_00, Nat.reduceLT, Nat.reduceLeDiff, nI_add, upM_s, upI_s, pk_mul, nf_at, a, z, c]
  rfl
theorem l94 (K : Lw L xs σ M s H n len T B) (hL : L ≤ 260) {k : Nat} (hk : k < 1000) : ∃ v, ∀ Q, wp 94 0 [some (.ref 1003), some (.int (nI k))] [] σ M Q = Q (some (.int v)) σ M := by
  obtain ⟨t, l, e⟩ := K.row
  have h1 : L < 1000000 := by omega
  by_cases c : k < L
  · have z : nI k < nI L := nI_lt c (by omega)
    refine ⟨xs k, fun Q => ?_⟩
    simp only [k94_0, k94_1, k94_2, k94_3, k94_6, k94_7, k94_8, k94_9, k94_12, k94_14, k94_15, k94_18, k94_19, k94_20, k94_23, k94_24, rf_s, pushR_s, pushR_n, le4_0, le4_1, le4_2, le4_3, le4_4, isLong_n, isLong_i, isLong_r, isLong_f, if_true, if_false, not_true_eq_false, not_false_eq_true, isI_0, isI_9, isAr_0, isAr_1, isAr_2, isAr_9, okR_i, okR_0, okR_1, putI_0, putI_b0, putI_b1, nI_10, nI_00, Nat.reduceLT, Nat.reduceLeDiff, nI_add, upM_s, upI_s, pk_mul, nf_at, t, l, e, h1, z, c]
  · have z : ¬ nI k < nI L := nI_nlt (by omega) (by omega)
    refine ⟨(-2082413205) * nI (k + 3833) + nI 3613, fun Q => ?_⟩
    simp only [k94_0, k94_1, k94_2, k94_3, k94_6, k94_7, k94_8, k94_9, k94_12, k94_14, k94_15, k94_18, k94_19, k94_20, k94_23, k94_24, rf_s, pushR_s, pushR_n, le4_0, le4_1, le4_2, le4_3, le4_4, isLong_n, isLong_i, isLong_r, isLong_f, if_true, if_false, not_true_eq_false, not_false_eq_true, isI_0, isI_9, isAr_0, isAr_1, isAr_2, isAr_9, okR_i, okR_0, okR_1, putI_0, putI_b0, putI_b1, nI_10, nI_00, Nat.reduceLT, Nat.reduceLeDiff, nI_add, upM_s, upI_s, pk_mul, nf_at, t, l, e, h1, z]
theorem cnt_0 (K : Lw L xs σ M s H n len T B) (Q : Po) : wp 18 0 [some (.ref 0), some (.int (nI 0))] [] σ M Q = Q (some (.int (nI (s 0)))) σ M := e18 K (w := 0) (Or.inl (by omega)) Q
theorem cnt_1 (K : Lw L xs σ M s H n len T B) (Q : Po) : wp 18 0 [some (.ref 0), some (.int (nI 1))] [] σ M Q = Q (some (.int (nI (s 1)))) σ M := e18 K (w := 1) (Or.inl (by omega)) Q
theorem cnt_2 (K : Lw L xs σ M s H n len T B) (Q : Po) : wp 18 0 [some (.ref 0), some (.int (nI 2))] [] σ M Q = Q (some (.int (nI (sumTo (opn s) (s 1))))) σ M := e18 K (w := 2) (Or.inl (by omega)) Q
theorem cnt_3 (K : Lw L xs σ M s H n len T B) (Q : Po) : wp 18 0 [some (.ref 0), some (.int (nI 3))] [] σ M Q = Q (some (.int (nI (s 2)))) σ M := e18 K (w := 3) (Or.inl (by omega)) Q
theorem cnt_4 (K : Lw L xs σ M s H n len T B) (Q : Po) : wp 18 0 [some (.ref 0), some (.int (nI 4))] [] σ M Q = Q (some (.int (nI (s 3)))) σ M := e18 K (w := 4) (Or.inl (by omega)) Q
theorem cnt_5 (K : Lw L xs σ M s H n len T B) (Q : Po) : wp 18 0 [some (.ref 0), some (.int (nI 5))] [] σ M Q = Q (some (.int (nI (s 4)))) σ M := e18 K (w := 5) (Or.inl (by omega)) Q
theorem cnt_6 (K : Lw L xs σ M s H n len T B) (Q : Po) : wp 18 0 [some (.ref 0), some (.int (nI 6))] [] σ M Q = Q (some (.int (nI (s 5)))) σ M := e18 K (w := 6) (Or.inl (by omega)) Q
theorem cnt_7 (K : Lw L xs σ M s H n len T B) (Q : Po) : wp 18 0 [some (.ref 0), some (.int (nI 7))] [] σ M Q = Q (some (.int (nI (s 6)))) σ M := e18 K (w := 7) (Or.inl (by omega)) Q
theorem cnt_8 (K : Lw L xs σ M s H n len T B) (Q : Po) : wp 18 0 [some (.ref 0), some (.int (nI 8))] [] σ M Q = Q (some (.int (nI (sumTo (trl s) (s 1))))) σ M := e18 K (w := 8) (Or.inl (by omega)) Q
theorem cnt_10 (K : Lw L xs σ M s H n len T B) (Q : Po) : wp 18 0 [some (.ref 0), some (.int (nI 10))] [] σ M Q = Q (some (.int (nI (s 7)))) σ M := e18 K (w := 10) (Or.inl (by omega)) Q
theorem cnt_11 (K : Lw L xs σ M s H n len T B) (Q : Po) : wp 18 0 [some (.ref 0), some (.int (nI 11))] [] σ M Q = Q (some (.int (nI (s 8)))) σ M := e18 K (w := 11) (Or.inl (by omega)) Q
theorem cnt_12 (K : Lw L xs σ M s H n len T B) (Q : Po) : wp 18 0 [some (.ref 0), some (.int (nI 12))] [] σ M Q = Q (some (.int (nI n))) σ M := e18 K (w := 12) (Or.inl (by omega)) Q
theorem cnt_13 (K : Lw L xs σ M s H n len T B) (Q : Po) : wp 18 0 [some (.ref 0), some (.int (nI 13))] [] σ M Q = Q (some (.int (nI len))) σ M := e18 K (w := 13) (Or.inl (by omega)) Q
theorem cnt_s (K : Lw L xs σ M s H n len T B) {k : Nat} (hk : k < 7) (Q : Po) : wp 18 0 [some (.ref 0), some (.int (nI (20 + k)))] [] σ M Q = Q (some (.int (nI (s (13 + k))))) σ M := by
  have e : aCount s n len (20 + k) = s (13 + k) := by
    unfold aCount
    rw [if_pos (by omega)]
    congr 1
    omega
  rw [← e]
  exact e18 K (w := 20 + k) (Or.inr (by omega)) Q
theorem cnt_20 (K : Lw L xs σ M s H n len T B) (Q : Po) : wp 18 0 [some (.ref 0), some (.int (nI 20))] [] σ M Q = Q (some (.int (nI (s 13)))) σ M := cnt_s K (k := 0) (by omega) Q
theorem cnt_24 (K : Lw L xs σ M s H n len T B) (Q : Po) : wp 18 0 [some (.ref 0), some (.int (nI 24))] [] σ M Q = Q (some (.int (nI (s 17)))) σ M := cnt_s K (k := 4) (by omega) Q
theorem cnt_26 (K : Lw L xs σ M s H n len T B) (Q : Po) : wp 18 0 [some (.ref 0), some (.int (nI 26))] [] σ M Q = Q (some (.int (nI (s 19)))) σ M := cnt_s K (k := 6) (by omega) Q
theorem aCount_0 {w : Nat} (h : w < 12) : aCount s n len w = aCount s 0 0 w := by
  rcases (show w = 0 ∨ w = 1 ∨ w = 2 ∨ w = 3 ∨ w = 4 ∨ w = 5 ∨ w = 6 ∨ w = 7 ∨ w = 8 ∨ w = 9 ∨ w = 10 ∨ w = 11 by omega) with c | c | c | c | c | c | c | c | c | c | c | c <;> subst c <;> rfl
def g1 (s : Nat → Nat) : Nat → Int64
  | 0 => 251
  | k + 1 => 31 * g1 s k + (nI (aCount s 0 0 k)).toInt64
def g2i (s : Nat → Nat) (k : Nat) (h : Int64) : Nat → Int64
  | 0 => h
  | w + 1 => 31 * g2i s k h w + (nI (aPath s k w)).toInt64
def g2 (s : Nat → Nat) (h : Int64) : Nat → Int64
  | 0 => h
  | k + 1 => g2i s k (g2 s h k) 8
def g3 (s : Nat → Nat) (h : Int64) : Nat → Int64
  | 0 => h
  | p + 1 => 31 * (31 * (31 * g3 s h p + (aPlace s p 1).toInt64) + (aPlace s p 2).toInt64) + (aPlace s p 4).toInt64
def g4 (s : Nat → Nat) (h : Int64) : Nat → Int64
  | 0 => h
  | k + 1 => 31 * g4 s h k + (nI (s (13 + k))).toInt64
def dgS (s : Nat → Nat) : Int64 := 31 * (31 * (31 * g4 s (g3 s (g2 s (g1 s 12) (s 1)) (s 0)) 7 + (bV s 0).toInt64) + (bV s 2).toInt64) + (baV s 1).toInt64
theorem dg1 (K : Lw L xs σ M s H n len T B) (l4 : Option Value) (Q : Po) : wp 96 6 [some (.ref 0), some (.long 251), none, some (.int (nI 0)), l4] [] σ M Q = wp 96 6 [some (.ref 0), some (.long (g1 s 12)), none, some (.int (nI 12)), l4] [] σ M Q :=
  wp_up (fun k => [some (.ref 0), some (.long (g1 s k)), none, some (.int (nI k)), l4]) (fun _ => M) Q (fun k hk => by
    have lt : nI k < nI 12 := nI_lt hk (by omega)
    have c := fun Q => e18 K (w := k) (Or.inl (by omega)) Q
    rw [aCount_0 (by omega)] at c
    have t0 := K.t0
    show wp 96 6 _ [] σ M Q = wp 96 6 [some (.ref 0), some (.long (31 * g1 s k + (nI (aCount s 0 0 k)).toInt64)), none, some (.int (nI (k + 1))), l4] [] σ M Q
    rw [k96_6]
    simp only [k96_7, k96_9, k96_12, k96_15, k96_16, k96_17, k96_18, k96_19, k96_22, k96_23, k96_24, k96_25, k96_28, rf_s, pushR_s, pushR_n, le4_0, le4_1, le4_2, le4_3, le4_4, isLong_n, isLong_i, isLong_r, isLong_f, if_true, if_false, not_true_eq_false, not_false_eq_true, isI_0, isI_9, isAr_0, isAr_1, isAr_2, isAr_9, okR_i, okR_0, okR_1, putI_0, putI_b0, putI_b1, nI_10, nI_00, Nat.reduceLT, Nat.reduceLeDiff, nI_add, upM_s, upI_s, pk_mul, nf_at, lt, t0, c])
theorem dg2i (K : Lw L xs σ M s H n len T B) {k : Nat} (hk : k < s 1) (h : Int64) (Q : Po) : wp 96 45 [some (.ref 0), some (.long h), none, some (.int (nI k)), some (.int (nI 0))] [] σ M Q = wp 96 45 [some (.ref 0), some (.long (g2i s k h 8)), none, some (.int (nI k)), some (.int (nI 8))] [] σ M Q :=
  wp_up (fun w => [some (.ref 0), some (.long (g2i s k h w)), none, some (.int (nI k)), some (.int (nI w))]) (fun _ => M) Q (fun w hw => by
    have lt : nI w < nI 8 := nI_lt hw (by omega)
    have c := fun Q => e9 K hk (w := w) hw Q
    have t0 := K.t0
    show wp 96 45 _ [] σ M Q = wp 96 45 [some (.ref 0), some (.long (31 * g2i s k h w + (nI (aPath s k w)).toInt64)), none, some (.int (nI k)), some (.int (nI (w + 1)))] [] σ M Q
    rw [k96_45]
    simp only [k96_47, k96_49, k96_52, k96_55, k96_56, k96_57, k96_58, k96_59, k96_61, k96_64, k96_65, k96_66, k96_67, k96_70, rf_s, pushR_s, pushR_n, le4_0, le4_1, le4_2, le4_3, le4_4, isLong_n, isLong_i, isLong_r, isLong_f, if_true, if_false, not_true_eq_false, not_false_eq_true, isI_0, isI_9, isAr_0, isAr_1, isAr_2, isAr_9, okR_i, okR_0, okR_1, putI_0, putI_b0, putI_b1, nI_10, nI_00, Nat.reduceLT, Nat.reduceLeDiff, nI_add, upM_s, upI_s, pk_mul, nf_at, lt, t0, c])
theorem dg2s (K : Lw L xs σ M s H n len T B) {k : Nat} (hk : k < s 1) (h : Int64) (l4 : Option Value) (Q : Po) : wp 96 33 [some (.ref 0), some (.long h), none, some (.int (nI k)), l4] [] σ M Q = wp 96 33 [some (.ref 0), some (.long (g2i s k h 8)), none, some (.int (nI (k + 1))), some (.int (nI 8))] [] σ M Q := by
  have k16 := K.inv.1.2.1
  have lt : nI k < nI (s 1) := nI_lt hk (by omega)
  have ge : ¬ nI 8 < nI 8 := nI_nlt (Nat.le_refl _) (by omega)
  have t0 := K.t0
  have c := cnt_1 K
  rw [k96_33]
  simp only [k96_34, k96_35, k96_36, k96_39, k96_42, k96_43, rf_s, pushR_s, pushR_n, le4_0, le4_1, le4_2, le4_3, le4_4, isLong_n, isLong_i, isLong_r, isLong_f, if_true, if_false, not_true_eq_false, not_false_eq_true, isI_0, isI_9, isAr_0, isAr_1, isAr_2, isAr_9, okR_i, okR_0, okR_1, putI_0, putI_b0, putI_b1, nI_10, nI_00, Nat.reduceLT, Nat.reduceLeDiff, nI_add, upM_s, upI_s, pk_mul, nf_at, lt, t0, c]
  rw [dg2i K hk, k96_45]
  simp only [k96_47, k96_49, k96_73, k96_76, rf_s, pushR_s, pushR_n, le4_0, le4_1, le4_2, le4_3, le4_4, isLong_n, isLong_i, isLong_r, isLong_f, if_true, if_false, not_true_eq_false, not_false_eq_true, isI_0, isI_9, isAr_0, isAr_1, isAr_2, isAr_9, okR_i, okR_0, okR_1, putI_0, putI_b0, putI_b1, nI_10, nI_00, Nat.reduceLT, Nat.reduceLeDiff, nI_add, upM_s, upI_s, pk_mul, nf_at, ge]
theorem dg2 (K : Lw L xs σ M s H n len T B) (h : Int64) (l4 : Option Value) : ∃ l4', ∀ Q, wp 96 33 [some (.ref 0), some (.long h), none, some (.int (nI 0)), l4] [] σ M Q = wp 96 33 [some (.ref 0), some (.long (g2 s h (s 1))), none, some (.int (nI (s 1))), l4'] [] σ M Q := by
  have key : ∀ k, k ≤ s 1 → ∃ l4', ∀ Q, wp 96 33 [some (.ref 0), some (.long h), none, some (.int (nI 0)), l4] [] σ M Q = wp 96 33 [some (.ref 0), some (.long (g2 s h k)), none, some (.int (nI k)), l4'] [] σ M Q := by
    intro k
    induction k with
    | zero => exact fun _ => ⟨l4, fun _ => rfl⟩
    | succ k ih =>
      intro hk
      obtain ⟨m, e⟩ := ih (by omega)
      exact ⟨_, fun Q => (e Q).trans (dg2s K (by omega) _ _ Q)⟩
  exact key (s 1) (Nat.le_refl _)
theorem dg3 (K : Lw L xs σ M s H n len T B) (h : Int64) (l4 : Option Value) : ∀ m, m ≤ s 0 → ∃ M', (∀ Q, wp 96 81 [some (.ref 0), some (.long h), none, some (.int (nI 0)), l4] [] σ M Q = wp 96 81 [some (.ref 0), some (.long (g3 s h m)), none, some (.int (nI m)), l4] [] σ M' Q) ∧ Lw L xs σ M' s H n len T B
  | 0, _ => ⟨M, fun _ => rfl, K⟩
  | m + 1, hm => by
    obtain ⟨M1, a1, K1⟩ := dg3 K h l4 m (by omega)
    obtain ⟨M2, a2, K2⟩ := e10 K1 (p := m) (w := 1) (by omega) (by omega)
    obtain ⟨M3, a3, K3⟩ := e10 K2 (p := m) (w := 2) (by omega) (by omega)
    obtain ⟨M4, a4, K4⟩ := e10 K3 (p := m) (w := 4) (by omega) (by omega)
    have s10 := K.inv.1.1
    have lt : nI m < nI (s 0) := nI_lt (by omega) (by omega)
    have t0 := K.t0
    have c := cnt_0 K1
    refine ⟨M4, fun Q => ?_, K4⟩
    rw [a1, k96_81]
    simp only [k96_82, k96_83, k96_84, k96_87, k96_90, k96_93, k96_96, k96_99, k96_100, k96_101, k96_102, k96_103, k96_104, k96_107, k96_108, k96_109, k96_110, k96_111, k96_112, k96_113, k96_116, k96_117, k96_118, k96_119, k96_120, k96_121, k96_122, k96_125, k96_126, k96_127, k96_128, k96_131, rf_s, pushR_s, pushR_n, le4_0, le4_1, le4_2, le4_3, le4_4, isLong_n, isLong_i, isLong_r, isLong_f, if_true, if_false, not_true_eq_false, not_false_eq_true, isI_0, isI_9, isAr_0, isAr_1, isAr_2, isAr_9, okR_i, okR_0, okR_1, putI_0, putI_b0, putI_b1, nI_10, nI_00, Nat.reduceLT, Nat.reduceLeDiff, nI_add, upM_s, upI_s, pk_mul, nf_at, lt, t0, c, a2, a3, a4]
    rfl
theorem dg4 (K : Lw L xs σ M s H n len T B) (h : Int64) (l4 : Option Value) (Q : Po) : wp 96 136 [some (.ref 0), some (.long h), none, some (.int (nI 0)), l4] [] σ M Q = wp 96 136 [some (.ref 0), some (.long (g4 s h 7)), none, some (.int (nI 7)), l4] [] σ M Q :=
  wp_up (fun k => [some (.ref 0), some (.long (g4 s h k)), none, some (.int (nI k)), l4]) (fun _ => M) Q (fun k hk => by
    have lt : nI k < nI 7 := nI_lt hk (by omega)
    have c := fun Q => cnt_s K hk Q
    have t0 := K.t0
    show wp 96 136 _ [] σ M Q = wp 96 136 [some (.ref 0), some (.long (31 * g4 s h k + (nI (s (13 + k))).toInt64)), none, some (.int (nI (k + 1))), l4] [] σ M Q
    rw [k96_136]
    simp only [k96_137, k96_139, k96_142, k96_145, k96_146, k96_147, k96_148, k96_150, k96_151, k96_152, k96_155, k96_156, k96_157, k96_158, k96_161, rf_s, pushR_s, pushR_n, le4_0, le4_1, le4_2, le4_3, le4_4, isLong_n, isLong_i, isLong_r, isLong_f, if_true, if_false, not_true_eq_false, not_false_eq_true, isI_0, isI_9, isAr_0, isAr_1, isAr_2, isAr_9, okR_i, okR_0, okR_1, putI_0, putI_b0, putI_b1, nI_10, nI_00, Nat.reduceLT, Nat.reduceLeDiff, nI_add, upM_s, upI_s, pk_mul, nf_at, lt, t0, c])
/-- the digest is reckoned of the state alone -/
theorem l96 (K : Lw L xs σ M s H n len T B) : ∃ M', (∀ Q, wp 96 0 [some (.ref 0), none, none, none, none] [] σ M Q = Q (some (.long (dgS s))) σ M') ∧ Lw L xs σ M' s H n len T B := by
  obtain ⟨l4, a2⟩ := dg2 K (g1 s 12) none
  obtain ⟨M', a3, K'⟩ := dg3 K (g2 s (g1 s 12) (s 1)) l4 (s 0) (Nat.le_refl _)
  have i := K.inv
  have g0 := i.1.1
  have g16 := i.1.2.1
  have h1 : ¬ nI 12 < nI 12 := nI_nlt (Nat.le_refl _) (by omega)
  have h2 : ¬ nI (s 1) < nI (s 1) := nI_nlt (Nat.le_refl _) (by omega)
  have h3 : ¬ nI (s 0) < nI (s 0) := nI_nlt (Nat.le_refl _) (by omega)
  have h4 : ¬ nI 7 < nI 7 := nI_nlt (Nat.le_refl _) (by omega)
  have t0 := K.t0
  have c1 := cnt_1 K
  have c0 := cnt_0 K'
  have b0 := fun Q => e11 K' (w := 0) (by omega) Q
  have b2 := fun Q => e11 K' (w := 2) (by omega) Q
  have ba := fun Q => e12 K' (k := 1) (by omega) (fun h9 => (i.2.2.2.2.1 h9).2.1) Q
  refine ⟨M', fun Q => ?_, K'⟩
  simp only [k96_0, k96_3, k96_4, k96_5, rf_s, pushR_s, pushR_n, le4_0, le4_1, le4_2, le4_3, le4_4, isLong_n, isLong_i, isLong_r, isLong_f, if_true, if_false, not_true_eq_false, not_false_eq_true, isI_0, isI_9, isAr_0, isAr_1, isAr_2, isAr_9, okR_i, okR_0, okR_1, putI_0, putI_b0, putI_b1, nI_10, nI_00, Nat.reduceLT, Nat.reduceLeDiff, nI_add, upM_s, upI_s, pk_mul, nf_at]
  rw [dg1 K, k96_6]
  simp only [k96_7, k96_9, k96_31, k96_32, rf_s, pushR_s, pushR_n, le4_0, le4_1, le4_2, le4_3, le4_4, isLong_n, isLong_i, isLong_r, isLong_f, if_true, if_false, not_true_eq_false, not_false_eq_true, isI_0, isI_9, isAr_0, isAr_1, isAr_2, isAr_9, okR_i, okR_0, okR_1, putI_0, putI_b0, putI_b1, nI_10, nI_00, Nat.reduceLT, Nat.reduceLeDiff, nI_add, upM_s, upI_s, pk_mul, nf_at, h1]
  rw [a2, k96_33]
  simp only [k96_34, k96_35, k96_36, k96_39, k96_79, k96_80, rf_s, pushR_s, pushR_n, le4_0, le4_1, le4_2, le4_3, le4_4, isLong_n, isLong_i, isLong_r, isLong_f, if_true, if_false, not_true_eq_false, not_false_eq_true, isI_0, isI_9, isAr_0, isAr_1, isAr_2, isAr_9, okR_i, okR_0, okR_1, putI_0, putI_b0, putI_b1, nI_10, nI_00, Nat.reduceLT, Nat.reduceLeDiff, nI_add, upM_s, upI_s, pk_mul, nf_at, t0, c1, h2]
  rw [a3, k96_81]
  simp only [k96_82, k96_83, k96_84, k96_87, k96_134, k96_135, rf_s, pushR_s, pushR_n, le4_0, le4_1, le4_2, le4_3, le4_4, isLong_n, isLong_i, isLong_r, isLong_f, if_true, if_false, not_true_eq_false, not_false_eq_true, isI_0, isI_9, isAr_0, isAr_1, isAr_2, isAr_9, okR_i, okR_0, okR_1, putI_0, putI_b0, putI_b1, nI_10, nI_00, Nat.reduceLT, Nat.reduceLeDiff, nI_add, upM_s, upI_s, pk_mul, nf_at, t0, c0, h3]
  rw [dg4 K', k96_136]
  simp only [k96_137, k96_139, k96_164, k96_167, k96_170, k96_173, k96_174, k96_175, k96_176, k96_177, k96_180, k96_181, k96_182, k96_183, k96_184, k96_185, k96_188, k96_189, k96_190, k96_191, k96_192, k96_193, k96_196, k96_197, k96_198, rf_s, pushR_s, pushR_n, le4_0, le4_1, le4_2, le4_3, le4_4, isLong_n, isLong_i, isLong_r, isLong_f, if_true, if_false, not_true_eq_false, not_false_eq_true, isI_0, isI_9, isAr_0, isAr_1, isAr_2, isAr_9, okR_i, okR_0, okR_1, putI_0, putI_b0, putI_b1, nI_10, nI_00, Nat.reduceLT, Nat.reduceLeDiff, nI_add, upM_s, upI_s, pk_mul, nf_at, t0, h4, b0, b2, ba]
  rfl
end DIG
