def opn (s : Nat → Nat) (k : Nat) : Nat := 1 - s (30 + 6 * k + 4)
def opa (s : Nat → Nat) (p k : Nat) : Nat := if acr s k p = 10 then 0 else 1
def trl (s : Nat → Nat) (k : Nat) : Nat := s (30 + 6 * k + 3)
theorem pOk10 {s : Nat → Nat} {k : Nat} (g : Gph s) (hk : k < s 1) : s (30 + 6 * k + 0) < 10 ∧ s (30 + 6 * k + 1) < 10 := by
  obtain ⟨g0, g1, g2⟩ := g
  have h := g2 k hk
  exact ⟨Nat.lt_of_lt_of_le h.1 g0, Nat.lt_of_lt_of_le h.2.1 g0⟩
