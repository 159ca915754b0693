/-! the whole object -/
def IsA (σ : Sg) : Prop := (sT σ 0 = 16) ∧ (sR σ 0 0 = some 1) ∧ (sR σ 0 1 = some 14) ∧ (sR σ 0 2 = some 27) ∧ (sR σ 0 3 = some 94) ∧ (sR σ 0 4 = some 99) ∧ (sR σ 0 5 = some 103)
theorem ia_t {σ : Sg} (h : IsA σ) : sT σ 0 = 16 := h.1
theorem ia_r0 {σ : Sg} (h : IsA σ) : sR σ 0 0 = some 1 := h.2.1
theorem ia_r1 {σ : Sg} (h : IsA σ) : sR σ 0 1 = some 14 := h.2.2.1
theorem ia_r2 {σ : Sg} (h : IsA σ) : sR σ 0 2 = some 27 := h.2.2.2.1
theorem ia_r3 {σ : Sg} (h : IsA σ) : sR σ 0 3 = some 94 := h.2.2.2.2.1
theorem ia_r4 {σ : Sg} (h : IsA σ) : sR σ 0 4 = some 99 := h.2.2.2.2.2.1
theorem ia_r5 {σ : Sg} (h : IsA σ) : sR σ 0 5 = some 103 := h.2.2.2.2.2.2
def IsH (σ : Sg) (I : Nat → Nat) : Prop := (sT σ 27 = 12) ∧ (sR σ 27 0 = some 28) ∧ (sT σ 28 = 2) ∧ (sL σ 28 = 5) ∧ (∀ i, i < 5 → sR σ 28 i = some (I i)) ∧ (∀ i, i < 5 → IsG σ (I i) ∧ 29 ≤ I i ∧ I i ≤ 81) ∧ ∀ i j, i < 5 → j < 5 → i ≠ j → I i + 12 < I j ∨ I j + 12 < I i
theorem ih_t27 {σ : Sg} {I : Nat → Nat} (h : IsH σ I) : sT σ 27 = 12 := h.1
theorem ih_r0 {σ : Sg} {I : Nat → Nat} (h : IsH σ I) : sR σ 27 0 = some 28 := h.2.1
theorem ih_t28 {σ : Sg} {I : Nat → Nat} (h : IsH σ I) : sT σ 28 = 2 := h.2.2.1
theorem ih_l28 {σ : Sg} {I : Nat → Nat} (h : IsH σ I) : sL σ 28 = 5 := h.2.2.2.1
theorem ih_rs {σ : Sg} {I : Nat → Nat} (h : IsH σ I) : ∀ i, i < 5 → sR σ 28 i = some (I i) := h.2.2.2.2.1
theorem ih_g {σ : Sg} {I : Nat → Nat} (h : IsH σ I) : ∀ i, i < 5 → IsG σ (I i) ∧ 29 ≤ I i ∧ I i ≤ 81 := h.2.2.2.2.2.1
theorem ih_d {σ : Sg} {I : Nat → Nat} (h : IsH σ I) : ∀ i j, i < 5 → j < 5 → i ≠ j → I i + 12 < I j ∨ I j + 12 < I i := h.2.2.2.2.2.2
/-- the same but for the row of the states -/
def Sm (σ τ : Sg) : Prop := sT τ = sT σ ∧ sL τ = sL σ ∧ sN τ = sN σ ∧ sS τ = sS σ ∧ ∀ o, o ≠ 28 → sR τ o = sR σ o
theorem Sm_r {σ : Sg} : Sm σ σ := ⟨rfl, rfl, rfl, rfl, fun _ _ => rfl⟩
theorem Sm_t {σ τ υ : Sg} (h : Sm σ τ) (k : Sm τ υ) : Sm σ υ := ⟨k.1.trans h.1, k.2.1.trans h.2.1, k.2.2.1.trans h.2.2.1, k.2.2.2.1.trans h.2.2.2.1, fun o q => (k.2.2.2.2 o q).trans (h.2.2.2.2 o q)⟩
theorem Sm_s {σ : Sg} {f : Nat → Option Nat} : Sm σ (setR σ 28 f) := ⟨rfl, rfl, rfl, rfl, fun o h => by rw [sR_set]; exact upM_n h⟩
theorem IsG_sm {σ τ : Sg} (h : Sm σ τ) {g : Nat} (n1 : g ≠ 28) (n2 : g + 11 ≠ 28) (G : IsG σ g) : IsG τ g := by
  unfold IsG at G ⊢
  rw [h.1, h.2.1, h.2.2.2.2 g n1, h.2.2.2.2 (g + 11) n2]
  exact G
theorem IsW_sm {σ τ : Sg} (h : Sm σ τ) {w : Nat} (n1 : w ≠ 28) (G : IsW σ w) : IsW τ w := by
  unfold IsW at G ⊢
  rw [h.1, h.2.1, h.2.2.2.2 w n1]
  exact G
theorem IsO_sm {σ τ : Sg} (h : Sm σ τ) (G : IsO σ) : IsO τ := by
  have w := IsW_sm h (by decide) (io_w G)
  unfold IsO at G ⊢
  rw [h.1, h.2.1, h.2.2.2.2 94 (by decide)]
  exact ⟨G.1, G.2.1, G.2.2.1, G.2.2.2.1, G.2.2.2.2.1, G.2.2.2.2.2.1, G.2.2.2.2.2.2.1, G.2.2.2.2.2.2.2.1, w⟩
theorem IsV_sm {σ τ : Sg} (h : Sm σ τ) (G : IsV σ) : IsV τ := by
  have w := IsW_sm h (by decide) (iv_w G)
  unfold IsV at G ⊢
  rw [h.1, h.2.1, h.2.2.2.2 99 (by decide)]
  exact ⟨G.1, G.2.1, G.2.2.1, G.2.2.2.1, G.2.2.2.2.1, w⟩
theorem IsD_sm {σ τ : Sg} (h : Sm σ τ) (G : IsD σ) : IsD τ := by
  unfold IsD at G ⊢
  rw [h.1, h.2.1, h.2.2.2.2 103 (by decide)]
  exact G
theorem IsA_sm {σ τ : Sg} (h : Sm σ τ) (G : IsA σ) : IsA τ := by
  unfold IsA at G ⊢
  rw [h.1, h.2.2.2.2 0 (by decide)]
  exact G
theorem IsM_sm {σ τ : Sg} (h : Sm σ τ) (G : IsM σ) : IsM τ := by
  unfold IsM at G ⊢
  rw [h.1, h.2.1, h.2.2.2.2 106 (by decide)]
  exact G
/-- all that is made once -/
def IsK (σ : Sg) : Prop := IsA σ ∧ IsG σ 1 ∧ IsG σ 14 ∧ IsO σ ∧ IsV σ ∧ IsD σ
theorem IsK_sm {σ τ : Sg} (h : Sm σ τ) (k : IsK σ) : IsK τ := ⟨IsA_sm h k.1, IsG_sm h (by decide) (by decide) k.2.1, IsG_sm h (by decide) (by decide) k.2.2.1, IsO_sm h k.2.2.2.1, IsV_sm h k.2.2.2.2.1, IsD_sm h k.2.2.2.2.2⟩
theorem IsC_sm {σ τ : Sg} (h : Sm σ τ) {M : Mem} (c : IsC σ M) : IsC τ M := by
  unfold IsC at c ⊢
  rw [h.1, h.2.1]
  exact c
theorem IsC_fr {σ : Sg} {M N : Mem} (c : IsC σ M) (h1 : N 1001 = M 1001) (h2 : N 1002 = M 1002) : IsC σ N := by
  unfold IsC at c ⊢
  rw [h1, h2]
  exact c
/-- what the class holds -/
def ClL (σ : Sg) (M : Mem) (I : Nat → Nat) (s : Nat → Nat) (H : Nat → Nat → Nat) (n len : Nat) (T : Nat → Nat) : Prop := IsK σ ∧ IsH σ I ∧ IsC σ M ∧ RG M 1 s ∧ (Inv s ∧ Ex s) ∧ (M 27 1 = nI n ∧ n ≤ 4) ∧ (∀ i, i < n → RG M (I i) (H i) ∧ Inv (H i) ∧ Ex (H i)) ∧ (M 103 1 = nI len ∧ ∀ j, j < len → M 104 j = nI (T j)) ∧ (∃ V, RW M 95 V) ∧ ∃ V, RW M 101 V
section HIS
variable {σ : Sg} {M : Mem} {I : Nat → Nat} {s s' : Nat → Nat} {H : Nat → Nat → Nat} {n len : Nat} {T : Nat → Nat} {r : Int32}
theorem c64 (hk : IsK σ) (hh : IsH σ I) (R : RG M 1 s) (i : Inv s) (h1 : M 27 1 = nI n) (hn : n ≤ 4) : ∃ M', (∀ Q, wp 64 0 [some (.ref 27), some (.ref 1)] [] σ M Q = Q none σ M') ∧ RG M' (I n) s ∧ FG M M' (I n) := by
  obtain ⟨g1, g2, g3⟩ := ih_g hh n (by omega)
  obtain ⟨M', a1, a2, a3⟩ := c37 hk.2.1 g1 (Or.inl (by omega)) R i
  have z : ¬ nI n < 0 := nI_pos (by omega)
  have z2 : nI n < nI 5 := nI_lt (by omega) (by omega)
  have h5 : n < 5 := by omega
  refine ⟨M', fun Q => ?_, a2, a3⟩
  simp only [k64_0, k64_1, k64_4, k64_7, k64_8, k64_11, k64_12, k64_15, k64_16, k64_19, k64_20, k64_21, k64_24, k64_25, k64_28, k64_29, k64_32, ih_t27 hh, ih_r0 hh, ih_t28 hh, ih_l28 hh, ih_rs hh, rf_s, pushR_s, pushR_n, le4_0, le4_1, le4_2, le4_3, le4_4, isLong_n, isLong_i, isLong_r, isLong_f, if_true, if_false, not_true_eq_false, not_false_eq_true, isI_0, isI_9, isAr_0, isAr_1, isAr_2, isAr_9, okR_i, okR_0, okR_1, putI_0, putI_b0, putI_b1, nI_10, nI_00, Nat.reduceLT, Nat.reduceLeDiff, nI_add, upM_s, upI_s, pk_mul, nf_at, h1, z, z2, h5, a1]
theorem c66 (hh : IsH σ I) (h5 : M 27 1 = nI 5) : ∃ τ, (∀ Q, wp 66 0 [some (.ref 27), none, none] [] σ M Q = Q none τ (upM M 27 (upI (M 27) 1 (nI 4)))) ∧ IsH τ (fun i => if i < 4 then I (i + 1) else I 0) ∧ Sm σ τ := by
  have t : ∀ i, i < 5 → sT σ (I i) = 11 := fun i hi => ig_t0 (ih_g hh i hi).1
  have z1 : nI 1 < nI 5 := by decide
  have z2 : nI 2 < nI 5 := by decide
  have z3 : nI 3 < nI 5 := by decide
  have z4 : nI 4 < nI 5 := by decide
  have z5 : ¬ nI 5 < nI 5 := by decide
  have r0 := ih_rs hh 0 (by omega)
  have r1 := ih_rs hh 1 (by omega)
  have r2 := ih_rs hh 2 (by omega)
  have r3 := ih_rs hh 3 (by omega)
  have r4 := ih_rs hh 4 (by omega)
  have t0 := t 0 (by omega)
  have t1 := t 1 (by omega)
  have t2 := t 2 (by omega)
  have t3 := t 3 (by omega)
  have t4 := t 4 (by omega)
  refine ⟨?_, fun Q => ?_, ?_⟩
  rotate_left
  · simp only [k66_0, k66_1, k66_4, k66_5, k66_6, k66_7, k66_8, k66_9, k66_10, k66_11, k66_14, k66_15, k66_18, k66_19, k66_22, k66_23, k66_24, k66_25, k66_26, k66_29, k66_30, k66_31, k66_32, k66_35, k66_38, k66_39, k66_42, k66_43, k66_46, k66_47, k66_48, k66_49, k66_50, k66_51, k66_52i, k66_52r, k66_52f, k66_53, k66_56, k66_57, k66_58, k66_61, ih_t27 hh, ih_r0 hh, ih_t28 hh, ih_l28 hh, rf_s, pushR_s, pushR_n, le4_0, le4_1, le4_2, le4_3, le4_4, isLong_n, isLong_i, isLong_r, isLong_f, if_true, if_false, not_true_eq_false, not_false_eq_true, isI_0, isI_9, isAr_0, isAr_1, isAr_2, isAr_9, okR_i, okR_0, okR_1, putI_0, putI_b0, putI_b1, nI_10, nI_00, Nat.reduceLT, Nat.reduceLeDiff, nI_add, upM_s, upI_s, pk_mul, nf_at, upI_n, upM_n, ne_eq, Nat.reduceEqDiff, r0, r1, r2, r3, r4, t0, t1, t2, t3, t4, z1, z2, z3, z4, z5, sT_set, sL_set, sR_set, pk_sub, Nat.reduceSub, Nat.reduceAdd, h5]
    rfl
  · have sm : ∀ {σ τ : Sg} {f : Nat → Option Nat}, Sm σ τ → Sm σ (setR τ 28 f) := fun h => Sm_t h Sm_s
    have ab : ∀ {a b : Prop}, (b → a) → b → a ∧ b := fun h1 h2 => ⟨h1 h2, h2⟩
    refine ab (fun hsm => ?_) (sm (sm (sm (sm (sm Sm_r)))))
    refine ⟨?_, ?_, ?_, ?_, fun i hi => ?_, fun i hi => ?_, fun i j hi hj hij => ?_⟩
    · exact (congrFun hsm.1 27).trans (ih_t27 hh)
    · exact (congrFun (hsm.2.2.2.2 27 (by decide)) 0).trans (ih_r0 hh)
    · exact (congrFun hsm.1 28).trans (ih_t28 hh)
    · exact (congrFun hsm.2.1 28).trans (ih_l28 hh)
    · rcases (show i = 0 ∨ i = 1 ∨ i = 2 ∨ i = 3 ∨ i = 4 by omega) with e | e | e | e | e <;> subst e <;> simp only [sR_set, upM_s, upM_n, ne_eq, Nat.reduceEqDiff, not_false_eq_true, Nat.reduceLT, if_true, if_false, Nat.reduceAdd, r0, r1, r2, r3, r4] <;> rfl
    · have key : ∀ k, k < 5 → IsG _ (I k) ∧ 29 ≤ I k ∧ I k ≤ 81 := fun k hk => by
        have q := ih_g hh k hk
        exact ⟨IsG_sm hsm (by omega) (by omega) q.1, q.2⟩
      by_cases c : i < 4
      · show IsG _ (if i < 4 then I (i + 1) else I 0) ∧ 29 ≤ (if i < 4 then I (i + 1) else I 0) ∧ (if i < 4 then I (i + 1) else I 0) ≤ 81
        rw [if_pos c]
        exact key (i + 1) (by omega)
      · show IsG _ (if i < 4 then I (i + 1) else I 0) ∧ 29 ≤ (if i < 4 then I (i + 1) else I 0) ∧ (if i < 4 then I (i + 1) else I 0) ≤ 81
        rw [if_neg c]
        exact key 0 (by omega)
    · show (if i < 4 then I (i + 1) else I 0) + 12 < (if j < 4 then I (j + 1) else I 0) ∨ (if j < 4 then I (j + 1) else I 0) + 12 < (if i < 4 then I (i + 1) else I 0)
      by_cases ci : i < 4
      · rw [if_pos ci]
        by_cases cj : j < 4
        · rw [if_pos cj]
          exact ih_d hh (i + 1) (j + 1) (by omega) (by omega) (by omega)
        · rw [if_neg cj]
          exact ih_d hh (i + 1) 0 (by omega) (by omega) (by omega)
      · rw [if_neg ci]
        by_cases cj : j < 4
        · rw [if_pos cj]
          exact ih_d hh 0 (j + 1) (by omega) (by omega) (by omega)
        · omega
end HIS
