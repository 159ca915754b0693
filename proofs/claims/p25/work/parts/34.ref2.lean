theorem ne_nf {a : Nat} (ha : a < 2 ^ 31) : ¬ nI a = -1000000004 := by
  intro e
  have h := congrArg Int32.toInt e
  rw [nI_toInt ha] at h
  have h2 : Int32.toInt (-1000000004) = -1000000004 := by decide
  omega
def rOver (s : Nat → Nat) (r : Int32) : Prop := s 9 = 0 ∧ r = -1000000004 ∨ s 9 ≠ 0 ∧ Dr s (s 0) (s 7) < 1000 ∧ r = nI (s 9) - nI (Dr s (s 0) (s 7)) ∨ s 9 ≠ 0 ∧ ¬ Dr s (s 0) (s 7) < 1000 ∧ r = -1000000004
theorem rOver_ex {s : Nat → Nat} : ∃ r, rOver s r := by
  by_cases h : s 9 = 0
  · exact ⟨_, Or.inl ⟨h, rfl⟩⟩
  · by_cases h2 : Dr s (s 0) (s 7) < 1000
    · exact ⟨_, Or.inr (Or.inl ⟨h, h2, rfl⟩)⟩
    · exact ⟨_, Or.inr (Or.inr ⟨h, h2, rfl⟩)⟩
def mix (s t : Nat → Nat) : Nat → Nat := fun j => if j < 146 then s j else t j
theorem mix_e {s t : Nat → Nat} : e146 s (mix s t) := fun j hj => if_pos hj
theorem cp_mix {s t : Nat → Nat} {f : Nat → Int32} : cp 146 (cp 146 (nf s) f) (nf t) = nf (mix s t) := by
  funext j
  unfold cp nf mix
  by_cases c : j < 146
  · rw [if_pos c, if_pos c, if_pos c]
  · rw [if_neg c, if_neg c]
def aAnt (s : Nat → Nat) (w : Nat) : Nat := if w = 0 then (wlk s).2.2 else if w = 1 then (wlk s).2.1.1 else hr (wlk s).2.1
def rAnt (s : Nat → Nat) (x r : Int32) : Prop := (∃ w, w ≤ 2 ∧ x = nI w ∧ (s 0 < 2 ∧ r = -1000000002 ∨ 2 ≤ s 0 ∧ r = nI (aAnt s w))) ∨ (¬ qIn x 2) ∧ r = -1000000001
theorem rAnt_ex {s : Nat → Nat} (x : Int32) : ∃ r, rAnt s x r := by
  by_cases h : qIn x 2
  · obtain ⟨w, hw, e⟩ := h
    by_cases h2 : s 0 < 2
    · exact ⟨_, Or.inl ⟨w, hw, e, Or.inl ⟨h2, rfl⟩⟩⟩
    · exact ⟨_, Or.inl ⟨w, hw, e, Or.inr ⟨by omega, rfl⟩⟩⟩
  · exact ⟨_, Or.inr ⟨h, rfl⟩⟩
def aWould (s : Nat → Nat) (n w : Nat) : Int32 := if w = 0 then nI (lapN s n 4) - nI (s 4) else if w = 1 then nI (lapN s n 5) - nI (s 5) else if w = 3 then nI (sumTo (trl (lapN s n)) (lapN s n 1)) else if lapN s n 9 = 0 then -1000000004 else nI (lapN s n 9)
def rWould (s : Nat → Nat) (x y r : Int32) : Prop := (∃ n w, 1 ≤ n ∧ n ≤ 5 ∧ x = nI n ∧ w ≤ 3 ∧ y = nI w ∧ (s 0 < 2 ∧ r = -1000000002 ∨ 2 ≤ s 0 ∧ r = aWould s n w)) ∨ ((¬ ∃ n, 1 ≤ n ∧ n ≤ 5 ∧ x = nI n) ∨ (∃ n, 1 ≤ n ∧ n ≤ 5 ∧ x = nI n) ∧ ¬ qIn y 3) ∧ r = -1000000001
theorem rWould_ex {s : Nat → Nat} (x y : Int32) : ∃ r, rWould s x y r := by
  by_cases h : ∃ n, 1 ≤ n ∧ n ≤ 5 ∧ x = nI n
  · have h' := h
    obtain ⟨n, n1, n5, e⟩ := h
    by_cases h2 : qIn y 3
    · obtain ⟨w, hw, e2⟩ := h2
      by_cases h3 : s 0 < 2
      · exact ⟨_, Or.inl ⟨n, w, n1, n5, e, hw, e2, Or.inl ⟨h3, rfl⟩⟩⟩
      · exact ⟨_, Or.inl ⟨n, w, n1, n5, e, hw, e2, Or.inr ⟨by omega, rfl⟩⟩⟩
    · exact ⟨_, Or.inr ⟨Or.inr ⟨h', h2⟩, rfl⟩⟩
  · exact ⟨_, Or.inr ⟨Or.inl h, rfl⟩⟩
