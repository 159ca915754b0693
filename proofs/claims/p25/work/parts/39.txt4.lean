def rFault (T : Nat → Nat) (len : Nat) (s : Nat → Nat) (x r : Int32) : Prop := (∃ w, w ≤ 2 ∧ x = nI w ∧ ∃ u t, Run T len 61 s 0 0 u t ∧ (u.1 = 0 ∧ r = -1000000004 ∨ u.1 ≠ 0 ∧ r = (if w = 0 then nI u.2.1 else if w = 1 then nI u.1 else u.2.2.1))) ∨ (¬ qIn x 2) ∧ r = -1000000001
theorem rFault_ex {T : Nat → Nat} {len : Nat} {s : Nat → Nat} (i : Inv s) (hl : len ≤ 60) (x : Int32) : ∃ r, rFault T len s x r := by
  by_cases h : qIn x 2
  · obtain ⟨w, hw, e⟩ := h
    obtain ⟨u, t, h2⟩ := Run_ex (T := T) (len := len) 61 s 0 0 i (by omega) (by omega)
    by_cases h3 : u.1 = 0
    · exact ⟨_, Or.inl ⟨w, hw, e, u, t, h2, Or.inl ⟨h3, rfl⟩⟩⟩
    · exact ⟨_, Or.inl ⟨w, hw, e, u, t, h2, Or.inr ⟨h3, rfl⟩⟩⟩
  · exact ⟨_, Or.inr ⟨h, rfl⟩⟩
def oPlay (T : Nat → Nat) (len : Nat) (s : Nat → Nat) (r : Int32) (s' : Nat → Nat) : Prop := ∃ u, Run T len 61 s 0 0 u s' ∧ (u.1 = 0 ∧ r = nI u.2.2.2 ∨ u.1 ≠ 0 ∧ r = -1000000002)
theorem oPlay_ex {T : Nat → Nat} {len : Nat} {s : Nat → Nat} (i : Inv s) (hl : len ≤ 60) : ∃ r s', oPlay T len s r s' := by
  obtain ⟨u, t, h2⟩ := Run_ex (T := T) (len := len) 61 s 0 0 i (by omega) (by omega)
  by_cases h3 : u.1 = 0
  · exact ⟨_, t, u, h2, Or.inl ⟨h3, rfl⟩⟩
  · exact ⟨_, t, u, h2, Or.inr ⟨h3, rfl⟩⟩
section TXT
variable {σ : Sg} {M : Mem} {s s' : Nat → Nat} {H : Nat → Nat → Nat} {n len : Nat} {T : Nat → Nat} {r : Int32}
theorem tx_of (h : RfL M s H n len T) (hl : len ≤ 60) (hT : ∀ j, j < len → T j ≤ 126) : Tx M len T := ⟨h.2.2.2.1, h.2.2.2.2, hl, hT⟩
theorem oPlay_inv (i : Inv s) (o : oPlay T len s r s') : Inv s' ∧ (er r ∨ nr r) := by
  obtain ⟨u, hR, hr⟩ := o
  have inv := Run_inv 61 s 0 0 u s' i hR
  refine ⟨inv.1, ?_⟩
  rcases hr with ⟨c, e⟩ | ⟨c, e⟩
  · rw [e]; exact Or.inr (nr_nI (by omega))
  · rw [e]; exact Or.inl (Or.inr (Or.inl rfl))
end TXT
