/-! the same state, as far as it is kept -/
def e146 (s t : Nat → Nat) : Prop := ∀ j, j < 146 → t j = s j
theorem Inv_e {s t : Nat → Nat} (lo : e146 s t) (i : Inv s) : Inv t := by
  obtain ⟨⟨g0, g1, g2⟩, i2, i3, i4, i5⟩ := i
  refine ⟨⟨by rw [lo 0 (by omega)]; exact g0, by rw [lo 1 (by omega)]; exact g1, fun q hq => ?_⟩, ?_, ?_, by rw [lo 8 (by omega)]; exact i4, ?_⟩
  · rw [lo 1 (by omega)] at hq
    have h := g2 q hq
    unfold pOk at h ⊢
    rw [lo 0 (by omega), lo (30 + 6 * q + 0) (by omega), lo (30 + 6 * q + 1) (by omega), lo (30 + 6 * q + 2) (by omega), lo (30 + 6 * q + 3) (by omega), lo (30 + 6 * q + 4) (by omega)]
    exact h
  · unfold sOk at i2 ⊢
    rw [lo 13 (by omega), lo 14 (by omega), lo 15 (by omega), lo 16 (by omega), lo 17 (by omega), lo 18 (by omega), lo 19 (by omega)]
    exact i2
  · unfold fOk at i3 ⊢
    rw [lo 7 (by omega), lo 0 (by omega)]
    exact i3
  · unfold bOk at i5 ⊢
    rw [lo 7 (by omega), lo 0 (by omega), lo 9 (by omega), lo 10 (by omega), lo 12 (by omega), lo 20 (by omega)]
    refine ⟨fun h9 => ?_, i5.2⟩
    obtain ⟨q1, q2, q3, q4, q5, q6, q7⟩ := i5.1 h9
    exact ⟨q1, q2, q3, q4, q5, q6, fun i hi => by rw [lo (20 + i) (by omega)]; exact q7 i hi⟩
/-! the reference's answers that change nothing -/
def inb (s : Nat → Nat) (k : Nat) : Nat := if s 9 = 0 then 0 else bit (s 12) k
def aPath (s : Nat → Nat) (k w : Nat) : Nat := if w < 5 then s (30 + 6 * k + w) else if w = 5 then wt s k else if w = 6 then s (30 + 6 * k + 5) else inb s k
def rPathOf (s : Nat → Nat) (x y r : Int32) : Prop := (∃ k, k < s 1 ∧ x = nI k ∧ ((∃ w, w < 8 ∧ y = nI w ∧ r = nI (aPath s k w)) ∨ (¬ ∃ w, w < 8 ∧ y = nI w) ∧ r = -1000000001)) ∨ (¬ ∃ k, k < s 1 ∧ x = nI k) ∧ r = -1000000001
theorem rPathOf_ex {s : Nat → Nat} (x y : Int32) : ∃ r, rPathOf s x y r := by
  by_cases h : ∃ k, k < s 1 ∧ x = nI k
  · obtain ⟨k, hk, e⟩ := h
    by_cases h2 : ∃ w, w < 8 ∧ y = nI w
    · obtain ⟨w, hw, e2⟩ := h2
      exact ⟨_, Or.inl ⟨k, hk, e, Or.inl ⟨w, hw, e2, rfl⟩⟩⟩
    · exact ⟨_, Or.inl ⟨k, hk, e, Or.inr ⟨h2, rfl⟩⟩⟩
  · exact ⟨_, Or.inr ⟨h, rfl⟩⟩
theorem no8 {y : Int32} (h : ¬ ∃ w, w < 8 ∧ y = nI w) : ∀ w, w < 8 → ¬ y = nI w := fun w hw e => h ⟨w, hw, e⟩
def ob (s : Nat → Nat) (p : Nat) : Nat → Nat
  | 0 => 0
  | n + 1 => if s 9 ≠ 0 ∧ s (20 + n) = p then 1 else ob s p n
def aPlace (s : Nat → Nat) (p w : Nat) : Int32 := if w = 0 then nI (sumTo (opa s p) (s 1)) else if w = 1 then nI (s (126 + 2 * p + 0)) else if w = 2 then nI (s (126 + 2 * p + 1)) else if w = 3 then dist s p else nI (ob s p (s 10 + 1))
def rPlaceOf (s : Nat → Nat) (x y r : Int32) : Prop := (∃ p, p < s 0 ∧ x = nI p ∧ ((∃ w, w < 5 ∧ y = nI w ∧ r = aPlace s p w) ∨ (¬ ∃ w, w < 5 ∧ y = nI w) ∧ r = -1000000001)) ∨ (¬ ∃ p, p < s 0 ∧ x = nI p) ∧ r = -1000000001
theorem rPlaceOf_ex {s : Nat → Nat} (x y : Int32) : ∃ r, rPlaceOf s x y r := by
  by_cases h : ∃ k, k < s 0 ∧ x = nI k
  · obtain ⟨k, hk, e⟩ := h
    by_cases h2 : ∃ w, w < 5 ∧ y = nI w
    · obtain ⟨w, hw, e2⟩ := h2
      exact ⟨_, Or.inl ⟨k, hk, e, Or.inl ⟨w, hw, e2, rfl⟩⟩⟩
    · exact ⟨_, Or.inl ⟨k, hk, e, Or.inr ⟨h2, rfl⟩⟩⟩
  · exact ⟨_, Or.inr ⟨h, rfl⟩⟩
/-- what a question leaves: a state that is the same as far as it is kept -/
def RQ (M M' : Mem) (s : Nat → Nat) : Prop := (∃ s', e146 s s' ∧ M' 107 = nf s') ∧ (∀ o, o < 106 ∨ o = 110 ∨ o = 111 ∨ 116 < o → M' o = M o) ∧ M' 106 4 = M 106 4 ∧ M' 106 6 = M 106 6
theorem RQ_r {M : Mem} {s : Nat → Nat} (hs : M 107 = nf s) : RQ M M s := ⟨⟨s, fun _ _ => rfl, hs⟩, fun _ _ => rfl, rfl, rfl⟩
theorem RQ_a {M : Mem} {s d : Nat → Nat} (hs : M 107 = nf s) : RQ M (aM M d) s := ⟨⟨s, fun _ _ => rfl, by unfold aM; rw [upM_n (by decide)]; exact hs⟩, fun o h => by unfold aM; exact upM_n (by omega), rfl, rfl⟩
def rBest (s : Nat → Nat) (x r : Int32) : Prop := (∃ w, w ≤ 3 ∧ x = nI w ∧ (s 9 = 0 ∧ r = -1000000004 ∨ s 9 ≠ 0 ∧ r = nI (s (9 + w)))) ∨ (¬ qIn x 3) ∧ r = -1000000001
theorem rBest_ex {s : Nat → Nat} (x : Int32) : ∃ r, rBest s x r := by
  by_cases h : qIn x 3
  · obtain ⟨w, hw, e⟩ := h
    by_cases h2 : s 9 = 0
    · exact ⟨_, Or.inl ⟨w, hw, e, Or.inl ⟨h2, rfl⟩⟩⟩
    · exact ⟨_, Or.inl ⟨w, hw, e, Or.inr ⟨h2, rfl⟩⟩⟩
  · exact ⟨_, Or.inr ⟨h, rfl⟩⟩
def rBestAt (s : Nat → Nat) (x r : Int32) : Prop := x < 0 ∧ r = -1000000001 ∨ ¬ x < 0 ∧ s 9 = 0 ∧ r = -1000000004 ∨ ¬ x < 0 ∧ s 9 ≠ 0 ∧ ((∃ k, k ≤ s 10 ∧ x = nI k ∧ r = nI (s (20 + k))) ∨ nI (s 10) < x ∧ r = -1000000004)
theorem rBestAt_ex {s : Nat → Nat} (i : Inv s) (x : Int32) : ∃ r, rBestAt s x r := by
  by_cases h : x < 0
  · exact ⟨_, Or.inl ⟨h, rfl⟩⟩
  · by_cases h9 : s 9 = 0
    · exact ⟨_, Or.inr (Or.inl ⟨h, h9, rfl⟩)⟩
    · have h10 := i.2.2.2.2.2
      rcases pk_ix x (n := s 10 + 1) (by omega) with h1 | h1 | ⟨j, hj, e⟩
      · exact absurd h1 h
      · refine ⟨_, Or.inr (Or.inr ⟨h, h9, Or.inr ⟨?_, rfl⟩⟩)⟩
        have h2 := Int32.le_iff_toInt_le.1 h1
        rw [nI_toInt (by omega)] at h2
        exact Int32.lt_iff_toInt_lt.2 (by rw [nI_toInt (by omega)]; omega)
      · exact ⟨_, Or.inr (Or.inr ⟨h, h9, Or.inl ⟨j, by omega, e, rfl⟩⟩)⟩
theorem le_of_nlt {a b : Int32} (h : ¬ a < b) : b ≤ a := Int32.le_iff_toInt_le.2 (by
  have : ¬ a.toInt < b.toInt := fun q => h (Int32.lt_iff_toInt_lt.2 q)
  omega)
theorem nle_of_lt {a b : Int32} (h : a < b) : ¬ b ≤ a := fun q => by
  have h1 := Int32.lt_iff_toInt_lt.1 h
  have h2 := Int32.le_iff_toInt_le.1 q
  omega
