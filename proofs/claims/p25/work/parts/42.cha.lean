def ow (s : Nat → Nat) (p k : Nat) : Nat := if acr s k p = 10 then 0 else wt s k
theorem ow_le {s : Nat → Nat} {p k : Nat} (h : pOk s k) : ow s p k ≤ 199981 := by
  unfold ow
  have := wt_le h
  split <;> omega
theorem ow_sum {s : Nat → Nat} {p : Nat} (g : Gph s) {n : Nat} (hn : n ≤ s 1) : sumTo (ow s p) n ≤ 3199696 := by
  have h1 := sumTo_le (f := ow s p) (c := 199981) (n := n) (fun k hk => ow_le (g.2.2 k (by omega)))
  have h2 : n * 199981 ≤ 16 * 199981 := Nat.mul_le_mul_right _ (by have := g.2.1; omega)
  omega
theorem sumTo_ge {f : Nat → Nat} {k : Nat} : ∀ {n : Nat}, k < n → f k ≤ sumTo f n
  | 0, h => absurd h (Nat.not_lt_zero _)
  | n + 1, h => by
    simp only [sumTo]
    by_cases c : k = n
    · rw [c]; omega
    · have := sumTo_ge (f := f) (k := k) (n := n) (by omega)
      omega
def fqt (s : Nat → Nat) (p k E t : Nat) : Prop := FP.fdiv (FP.i2f (nI (wt s k))) (FP.i2f (nI (sumTo (ow s p) (s 1)))) = fU E t ∧ 1 ≤ E ∧ E ≤ 127 ∧ t < 8388608
def rChance (s : Nat → Nat) (x y r : Int32) : Prop := (∃ p k, p < s 0 ∧ x = nI p ∧ k < s 1 ∧ y = nI k ∧ (acr s k p = 10 ∧ r = -1000000004 ∨ acr s k p ≠ 10 ∧ ∃ E t, fqt s p k E t ∧ r = nI (E * 8388608 + t))) ∨ ((¬ ∃ p, p < s 0 ∧ x = nI p) ∨ (∃ p, p < s 0 ∧ x = nI p) ∧ ¬ ∃ k, k < s 1 ∧ y = nI k) ∧ r = -1000000001
theorem rChance_ex {s : Nat → Nat} (g : Gph s) (x y : Int32) : ∃ r, rChance s x y r := by
  by_cases h1 : ∃ p, p < s 0 ∧ x = nI p
  · by_cases h2 : ∃ k, k < s 1 ∧ y = nI k
    · obtain ⟨p, hp, e1⟩ := h1
      obtain ⟨k, hk, e2⟩ := h2
      by_cases c : acr s k p = 10
      · exact ⟨_, Or.inl ⟨p, k, hp, e1, hk, e2, Or.inl ⟨c, rfl⟩⟩⟩
      · have hc : ow s p k = wt s k := if_neg c
        have h3 := sumTo_ge (f := ow s p) hk
        have h4 := ow_sum (p := p) g (Nat.le_refl (s 1))
        have h5 := wt_le (g.2.2 k hk)
        obtain ⟨E, t, q1, q2, q3, q4⟩ := fdiv_ok (w := wt s k) (S := sumTo (ow s p) (s 1)) (by omega) (by omega) (by omega)
        exact ⟨_, Or.inl ⟨p, k, hp, e1, hk, e2, Or.inr ⟨c, E, t, ⟨q1, q2, q3, q4⟩, rfl⟩⟩⟩
    · exact ⟨_, Or.inr ⟨Or.inr ⟨h1, h2⟩, rfl⟩⟩
  · exact ⟨_, Or.inr ⟨Or.inl h1, rfl⟩⟩
