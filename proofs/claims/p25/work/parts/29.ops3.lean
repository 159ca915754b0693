def sMn : Nat → Nat
  | 0 => 1
  | 1 => 0
  | 2 => 1
  | 3 => 0
  | 4 => 1
  | 5 => 100
  | _ => 1
def sMx : Nat → Nat
  | 0 => 5
  | 1 => 90
  | 2 => 999
  | 3 => 9
  | 4 => 99
  | 5 => 9999
  | _ => 99
def gSet (s : Nat → Nat) (k v : Nat) : Nat → Nat := upN s (13 + k) v
def oSet (s : Nat → Nat) (x y r : Int32) (s' : Nat → Nat) : Prop := (∃ k v, x = nI k ∧ k < 7 ∧ y = nI v ∧ sMn k ≤ v ∧ v ≤ sMx k ∧ r = nI (s (13 + k)) ∧ s' = gSet s k v) ∨ ((¬ ∃ k, k < 7 ∧ x = nI k) ∨ (∃ k, k < 7 ∧ x = nI k ∧ ¬ ∃ v, sMn k ≤ v ∧ v ≤ sMx k ∧ y = nI v)) ∧ r = -1000000001 ∧ s' = s
theorem oSet_ex {s : Nat → Nat} (x y : Int32) : ∃ r s', oSet s x y r s' := by
  by_cases h1 : ∃ k, k < 7 ∧ x = nI k
  · have h1' := h1
    obtain ⟨k, hk, e⟩ := h1
    by_cases h2 : ∃ v, sMn k ≤ v ∧ v ≤ sMx k ∧ y = nI v
    · obtain ⟨v, v1, v2, e2⟩ := h2
      exact ⟨_, _, Or.inl ⟨k, v, e, hk, e2, v1, v2, rfl, rfl⟩⟩
    · exact ⟨_, _, Or.inr ⟨Or.inr ⟨k, hk, e, h2⟩, rfl, rfl⟩⟩
  · exact ⟨_, _, Or.inr ⟨Or.inl h1, rfl, rfl⟩⟩
theorem sMn_lt : ∀ k, sMn k < 10000 := fun k => by
  unfold sMn
  split <;> decide
theorem sMx_lt : ∀ k, sMx k < 10000 := fun k => by
  unfold sMx
  split <;> decide
theorem oSet_inv {s : Nat → Nat} (i : Inv s) {x y r : Int32} {s' : Nat → Nat} (o : oSet s x y r s') : Inv s' ∧ (er r ∧ s' = s ∨ nr r) := by
  rcases o with ⟨k, v, e, hk, e2, v1, v2, h2, h3⟩ | ⟨h, e4, e5⟩
  · rw [h2, h3]
    obtain ⟨⟨g0, g1, g2⟩, i2, i3, i4, i5⟩ := i
    have lo : ∀ j, j < 13 ∨ 20 ≤ j → gSet s k v j = s j := fun j h => upN_n (by omega)
    refine ⟨⟨⟨by rw [lo 0 (by omega)]; exact g0, by rw [lo 1 (by omega)]; exact g1, fun q hq => ?_⟩, ?_, ?_, by rw [lo 8 (by omega)]; exact i4, ?_⟩, Or.inr (nr_nI ?_)⟩
    · rw [lo 1 (by omega)] at hq
      unfold pOk
      rw [lo 0 (by omega), lo (30 + 6 * q + 0) (by omega), lo (30 + 6 * q + 1) (by omega), lo (30 + 6 * q + 2) (by omega), lo (30 + 6 * q + 3) (by omega), lo (30 + 6 * q + 4) (by omega)]
      exact g2 q hq
    · unfold sOk at i2 ⊢
      have up : ∀ j, gSet s k v j = if j = 13 + k then v else s j := fun j => rfl
      rcases (show k = 0 ∨ k = 1 ∨ k = 2 ∨ k = 3 ∨ k = 4 ∨ k = 5 ∨ k = 6 by omega) with c | c | c | c | c | c | c <;> subst c <;> simp only [up, sMn, sMx, Nat.reduceAdd, Nat.reduceEqDiff, if_true, if_false] at * <;> omega
    · unfold fOk at i3 ⊢
      rw [lo 7 (by omega), lo 0 (by omega)]
      exact i3
    · unfold bOk at i5 ⊢
      rw [lo 7 (by omega), lo 0 (by omega), lo 9 (by omega), lo 10 (by omega), lo 12 (by omega), lo 20 (by omega)]
      refine ⟨fun h9 => ?_, i5.2⟩
      obtain ⟨q1, q2, q3, q4, q5, q6, q7⟩ := i5.1 h9
      exact ⟨q1, q2, q3, q4, q5, q6, fun i hi => by rw [lo (20 + i) (by omega)]; exact q7 i hi⟩
    · unfold sOk at i2
      rcases (show k = 0 ∨ k = 1 ∨ k = 2 ∨ k = 3 ∨ k = 4 ∨ k = 5 ∨ k = 6 by omega) with c | c | c | c | c | c | c <;> subst c <;> simp only [Nat.reduceAdd] <;> omega
  · rw [e4, e5]; exact ⟨i, Or.inl ⟨Or.inl rfl, rfl⟩⟩
