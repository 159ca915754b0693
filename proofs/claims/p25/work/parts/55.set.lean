section SET
variable {σ : Sg} {M : Mem} {I : Nat → Nat} {s s' : Nat → Nat} {H : Nat → Nat → Nat} {n len : Nat} {T : Nat → Nat} {r : Int32}
theorem pH_lt {i : Nat} (c : n < 4) : pH H n s i = if i = n then s else H i := by
  unfold pH
  rw [if_pos c]
theorem pH_ge {i : Nat} (c : ¬ n < 4) : pH H n s i = if i = 3 then s else H (i + 1) := by
  unfold pH
  rw [if_neg c]
/-- a change that was prepared is kept, if it is none of errors -/
theorem c65n (hk : IsK σ) (hh : IsH σ I) (hc : IsC σ M) (R : RG M 1 s') (i' : Inv s' ∧ Ex s') (h1 : M 27 1 = nI n) (hn : n ≤ 4) (hH : ∀ i, i < n → RG M (I i) (H i) ∧ Inv (H i) ∧ Ex (H i)) (Rn : RG M (I n) s) (i : Inv s ∧ Ex s) (hT : M 103 1 = nI len ∧ ∀ j, j < len → M 104 j = nI (T j)) (h95 : ∃ V, RW M 95 V) (h101 : ∃ V, RW M 101 V) (hr : nr r) : ∃ τ M' I', (∀ Q, wp 65 0 [some (.ref 27), some (.int r)] [] σ M Q = Q (some (.int r)) τ M') ∧ ClL τ M' I' s' (pH H n s) (pN n) len T ∧ Sm σ τ ∧ ∀ o, o ≠ 27 → M' o = M o := by
  have m25 := fun (Q : Po) => c25n (σ := σ) (M := M) hr Q
  have fr : ∀ (f : Nat → Int32) o, o ≠ 27 → upM M 27 f o = M o := fun f o h => upM_n h
  have all : ∀ (f : Nat → Int32), RG (upM M 27 f) 1 s' ∧ (∀ i, i < n → RG (upM M 27 f) (I i) (H i) ∧ Inv (H i) ∧ Ex (H i)) ∧ RG (upM M 27 f) (I n) s ∧ (∃ V, RW (upM M 27 f) 95 V) ∧ (∃ V, RW (upM M 27 f) 101 V) := fun f => by
    refine ⟨RG_o R i'.1.2.2.2.2.2 (fun o h1 h2 => fr f o (by omega)), fun j hj => ?_, ?_, ?_, ?_⟩
    · obtain ⟨a, b, c⟩ := hH j hj
      have q := ih_g hh j (by omega)
      exact ⟨RG_o a b.2.2.2.2.2 (fun o h1 h2 => fr f o (by omega)), b, c⟩
    · have q := ih_g hh n (by omega)
      exact RG_o Rn i.1.2.2.2.2.2 (fun o h1 h2 => fr f o (by omega))
    · obtain ⟨V, v⟩ := h95
      exact ⟨V, RW_fr v (fr f 95 (by decide)) (fr f 96 (by decide))⟩
    · obtain ⟨V, v⟩ := h101
      exact ⟨V, RW_fr v (fr f 101 (by decide)) (fr f 102 (by decide))⟩
  by_cases c : n < 4
  · have z : ¬ nI 4 < nI (n + 1) := nI_nlt (by omega) (by omega)
    obtain ⟨a1, a2, a3, a4, a5⟩ := all (upI (M 27) 1 (nI (n + 1)))
    refine ⟨σ, upM M 27 (upI (M 27) 1 (nI (n + 1))), I, fun Q => ?_, ⟨hk, hh, IsC_fr hc (fr _ 1001 (by decide)) (fr _ 1002 (by decide)), a1, i', ⟨?_, ?_⟩, fun j hj => ?_, hT, a4, a5⟩, Sm_r, fun o h => fr _ o h⟩
    · simp only [k65_0, k65_1, k65_4, k65_7, k65_8i, k65_8r, k65_8f, k65_9, k65_12, k65_13, k65_14, k65_17, k65_18, k65_21, k65_22, k65_25, k65_26, k65_29, k65_30, ih_t27 hh, rf_s, pushR_s, pushR_n, le4_0, le4_1, le4_2, le4_3, le4_4, isLong_n, isLong_i, isLong_r, isLong_f, if_true, if_false, not_true_eq_false, not_false_eq_true, isI_0, isI_9, isAr_0, isAr_1, isAr_2, isAr_9, okR_i, okR_0, okR_1, putI_0, putI_b0, putI_b1, nI_10, nI_00, Nat.reduceLT, Nat.reduceLeDiff, nI_add, upM_s, upI_s, pk_mul, nf_at, m25, h1, z]
    · unfold pN
      rw [if_pos c, upM_s, upI_s]
    · unfold pN
      rw [if_pos c]
      omega
    · unfold pN at hj
      rw [if_pos c] at hj
      rw [pH_lt c]
      by_cases cj : j = n
      · rw [if_pos cj, cj]
        exact ⟨a3, i⟩
      · rw [if_neg cj]
        exact a2 j (by omega)
  · have n4 : n = 4 := by omega
    subst n4
    have z : nI 4 < nI (4 + 1) := by decide
    obtain ⟨τ, b1, b2, b3⟩ := c66 (M := upM M 27 (upI (M 27) 1 (nI (4 + 1)))) hh (by rw [upM_s, upI_s])
    obtain ⟨a1, a2, a3, a4, a5⟩ := all (upI (upI (M 27) 1 (nI (4 + 1))) 1 (nI 4))
    rw [upM_s, upM_up] at b1
    refine ⟨τ, upM M 27 (upI (upI (M 27) 1 (nI (4 + 1))) 1 (nI 4)), _, fun Q => ?_, ⟨IsK_sm b3 hk, b2, IsC_sm b3 (IsC_fr hc (fr _ 1001 (by decide)) (fr _ 1002 (by decide))), a1, i', ⟨?_, Nat.le_refl _⟩, fun j hj => ?_, hT, a4, a5⟩, b3, fun o h => fr _ o h⟩
    · simp only [k65_0, k65_1, k65_4, k65_7, k65_8i, k65_8r, k65_8f, k65_9, k65_12, k65_13, k65_14, k65_17, k65_18, k65_21, k65_22, k65_25, k65_26, k65_29, k65_30, ih_t27 hh, rf_s, pushR_s, pushR_n, le4_0, le4_1, le4_2, le4_3, le4_4, isLong_n, isLong_i, isLong_r, isLong_f, if_true, if_false, not_true_eq_false, not_false_eq_true, isI_0, isI_9, isAr_0, isAr_1, isAr_2, isAr_9, okR_i, okR_0, okR_1, putI_0, putI_b0, putI_b1, nI_10, nI_00, Nat.reduceLT, Nat.reduceLeDiff, nI_add, upM_s, upI_s, pk_mul, nf_at, m25, h1, z, b1]
    · rw [upM_s, upI_s]; rfl
    · have hj' : j < 4 := hj
      rw [pH_ge c]
      show RG _ (if j < 4 then I (j + 1) else I 0) _ ∧ _
      rw [if_pos hj']
      by_cases cj : j = 3
      · rw [if_pos cj, cj]
        exact ⟨a3, i⟩
      · rw [if_neg cj]
        exact a2 (j + 1) (by omega)
theorem c65e (hr : er r) (hh : IsH σ I) (Q : Po) : wp 65 0 [some (.ref 27), some (.int r)] [] σ M Q = Q (some (.int r)) σ M := by
  have m25 := fun (Q : Po) => c25e (σ := σ) (M := M) hr Q
  simp only [k65_0, k65_1, k65_4, k65_7, k65_8i, k65_8r, k65_8f, k65_9, k65_12, k65_13, k65_14, k65_17, k65_18, k65_21, k65_22, k65_25, k65_26, k65_29, k65_30, ih_t27 hh, rf_s, pushR_s, pushR_n, le4_0, le4_1, le4_2, le4_3, le4_4, isLong_n, isLong_i, isLong_r, isLong_f, if_true, if_false, not_true_eq_false, not_false_eq_true, isI_0, isI_9, isAr_0, isAr_1, isAr_2, isAr_9, okR_i, okR_0, okR_1, putI_0, putI_b0, putI_b1, nI_10, nI_00, Nat.reduceLT, Nat.reduceLeDiff, nI_add, upM_s, upI_s, pk_mul, nf_at, m25]
/-- what a change leaves of the class -/
def CC (σ : Sg) (M : Mem) (τ : Sg) (M' : Mem) (s s' : Nat → Nat) (H : Nat → Nat → Nat) (n len : Nat) (T : Nat → Nat) (r : Int32) : Prop := (er r → ∃ I, ClL τ M' I s H n len T) ∧ (nr r → ∃ I, ClL τ M' I s' (pH H n s) (pN n) len T) ∧ Sm σ τ ∧ ∀ o, 106 ≤ o → M' o = M o
/-- behind prepare, and behind the order itself -/
theorem chgC (L : ClL σ M I s H n len T) {N P : Mem} (a2 : RG N (I n) s) (a3 : FG M N (I n)) (b2 : RG P 1 s') (b3 : FC N P 1) (b4 : ∃ V, RW P 95 V) (i' : Inv s' ∧ Ex s') (hr : er r ∧ s' = s ∨ nr r) : ∃ τ M', (∀ Q, wp 65 0 [some (.ref 27), some (.int r)] [] σ P Q = Q (some (.int r)) τ M') ∧ CC σ M τ M' s s' H n len T r := by
  obtain ⟨hk, hh, hc, R, i, ⟨h1, hn⟩, hH, hT, h95, h101⟩ := L
  obtain ⟨g1, g2, g3⟩ := ih_g hh n (by omega)
  have fN : ∀ o, o < 29 ∨ 93 < o → N o = M o := fun o ho => a3 o (by omega)
  have fP : ∀ o, 13 < o → (o < 95 ∨ 98 < o) → P o = N o := fun o h1 h2 => b3 o (Or.inr h1) h2
  have e27 : P 27 1 = nI n := by rw [fP 27 (by omega) (by omega), fN 27 (by omega)]; exact h1
  have eT : P 103 1 = nI len ∧ ∀ j, j < len → P 104 j = nI (T j) := by
    rw [fP 103 (by omega) (by omega), fN 103 (by omega), fP 104 (by omega) (by omega), fN 104 (by omega)]
    exact hT
  have e101 : ∃ V, RW P 101 V := by
    obtain ⟨V, v⟩ := h101
    exact ⟨V, RW_fr v (by rw [fP 101 (by omega) (by omega), fN 101 (by omega)]) (by rw [fP (101 + 1) (by omega) (by omega), fN (101 + 1) (by omega)])⟩
  have eC : IsC σ P := IsC_fr hc (by rw [fP 1001 (by omega) (by omega), fN 1001 (by omega)]) (by rw [fP 1002 (by omega) (by omega), fN 1002 (by omega)])
  have eH : ∀ j, j < n → RG P (I j) (H j) ∧ Inv (H j) ∧ Ex (H j) := fun j hj => by
    obtain ⟨a, b, c⟩ := hH j hj
    have q := ih_g hh j (by omega)
    have d := ih_d hh j n (by omega) (by omega) (by omega)
    exact ⟨RG_o a b.2.2.2.2.2 (fun o h1 h2 => by rw [fP o (by omega) (by omega)]; exact a3 o (by omega)), b, c⟩
  have en : RG P (I n) s := RG_o a2 i.1.2.2.2.2.2 (fun o h1 h2 => fP o (by omega) (by omega))
  rcases hr with ⟨hr, he⟩ | hr
  · subst he
    refine ⟨σ, P, fun Q => c65e hr hh Q, fun _ => ⟨I, hk, hh, eC, b2, i, ⟨e27, hn⟩, eH, eT, b4, e101⟩, fun q => (er_nr hr q).elim, Sm_r, fun o ho => by rw [fP o (by omega) (by omega), fN o (by omega)]⟩
  · obtain ⟨τ, M', I', d1, d2, d3, d4⟩ := c65n hk hh eC b2 i' e27 hn eH en i eT b4 e101 hr
    exact ⟨τ, M', d1, fun q => (er_nr q hr).elim, fun _ => ⟨I', d2⟩, d3, fun o ho => by rw [d4 o (by omega), fP o (by omega) (by omega), fN o (by omega)]⟩
end SET
