section UND
variable {σ : Sg} {M : Mem} {s : Nat → Nat} {H : Nat → Nat → Nat} {n len : Nat} {T : Nat → Nat}
def rUndo (n : Nat) (r : Int32) : Prop := n = 0 ∧ r = -1000000002 ∨ n ≠ 0 ∧ r = nI (n - 1)
def rType (len : Nat) (x r : Int32) : Prop := (∃ c, 32 ≤ c ∧ c ≤ 126 ∧ x = nI c ∧ (len = 60 ∧ r = -1000000003 ∨ len < 60 ∧ r = nI (len + 1))) ∨ (¬ ∃ c, 32 ≤ c ∧ c ≤ 126 ∧ x = nI c) ∧ r = -1000000001
theorem rType_ex (hl : len ≤ 60) (x : Int32) : ∃ r, rType len x r := by
  by_cases h : ∃ c, 32 ≤ c ∧ c ≤ 126 ∧ x = nI c
  · obtain ⟨c, h1, h2, e⟩ := h
    by_cases h3 : len = 60
    · exact ⟨_, Or.inl ⟨c, h1, h2, e, Or.inl ⟨h3, rfl⟩⟩⟩
    · exact ⟨_, Or.inl ⟨c, h1, h2, e, Or.inr ⟨by omega, rfl⟩⟩⟩
  · exact ⟨_, Or.inr ⟨h, rfl⟩⟩
end UND
/-! texts: digits, numbers, orders -/
def dg (T : Nat → Nat) (len p : Nat) : Nat := if p < len ∧ 48 ≤ T p ∧ T p ≤ 57 then 1 else 0
def chr (T : Nat → Nat) (len p c : Nat) : Nat := if p < len ∧ T p = c then 1 else 0
def num (T : Nat → Nat) (len : Nat) : Nat → Nat → Nat → Nat × Nat
  | 0, p, v => (p, v)
  | f + 1, p, v => if dg T len p = 1 then num T len f (p + 1) (10 * v + T p - 48) else (p, v)
theorem num_n {T : Nat → Nat} {len p v : Nat} (h : dg T len p ≠ 1) : ∀ f, num T len f p v = (p, v)
  | 0 => rfl
  | f + 1 => if_neg h
theorem num_ge {T : Nat → Nat} {len : Nat} : ∀ f p v, p ≤ (num T len f p v).1
  | 0, p, v => Nat.le_refl _
  | f + 1, p, v => by
    unfold num
    split
    · exact Nat.le_trans (Nat.le_succ p) (num_ge f (p + 1) _)
    · exact Nat.le_refl _
theorem num_le {T : Nat → Nat} {len : Nat} : ∀ f p v, p ≤ len → (num T len f p v).1 ≤ len
  | 0, p, v, h => h
  | f + 1, p, v, h => by
    unfold num
    split
    · rename_i c
      unfold dg at c
      split at c
      · exact num_le f (p + 1) _ (by omega)
      · omega
    · exact h
theorem dg_1 {T : Nat → Nat} {len p : Nat} (h : dg T len p = 1) : p < len ∧ 48 ≤ T p ∧ T p ≤ 57 := by
  unfold dg at h
  split at h
  · assumption
  · omega
theorem dg_0 {T : Nat → Nat} {len p : Nat} (h : dg T len p ≠ 1) : dg T len p = 0 := by
  unfold dg at h ⊢
  split at h
  · exact absurd rfl h
  · rename_i c
    rw [if_neg c]
theorem num_v {T : Nat → Nat} {len : Nat} : ∀ f p v, (num T len f p v).2 < (v + 1) * 10 ^ f
  | 0, p, v => by
    show v < (v + 1) * 1
    omega
  | f + 1, p, v => by
    unfold num
    split
    · rename_i c
      have d := dg_1 c
      have ih := num_v (T := T) (len := len) f (p + 1) (10 * v + T p - 48)
      have h2 : (10 * v + T p - 48 + 1) * 10 ^ f ≤ (10 * (v + 1)) * 10 ^ f := Nat.mul_le_mul_right _ (by omega)
      rw [Nat.pow_succ, Nat.mul_comm (10 ^ f) 10, ← Nat.mul_assoc, Nat.mul_comm (v + 1) 10]
      exact Nat.lt_of_lt_of_le ih h2
    · show v < (v + 1) * 10 ^ (f + 1)
      have : 1 ≤ 10 ^ (f + 1) := Nat.pow_pos (by decide)
      have h2 : (v + 1) * 1 ≤ (v + 1) * 10 ^ (f + 1) := Nat.mul_le_mul_left _ this
      omega
def many (c : Nat) : Nat := if c = 112 then 3 else if c = 115 then 2 else if c = 99 ∨ c = 111 ∨ c = 102 ∨ c = 108 then 1 else 0
theorem many_le {c : Nat} : many c ≤ 3 := by
  unfold many
  split
  · omega
  · split
    · omega
    · split <;> omega
/-- the numbers of an order: whether they are there, where the reading is then, and they -/
def rdn (T : Nat → Nat) (len : Nat) : Nat → Nat → Nat → (Nat → Nat) → Nat × Nat × (Nat → Nat)
  | 0, _, p, N => (1, p, N)
  | j + 1, k, p, N => if k ≠ 0 ∧ chr T len p 44 = 0 then (0, p, N) else if dg T len (if k = 0 then p else p + 1) = 1 then rdn T len j (k + 1) (num T len 4 (if k = 0 then p else p + 1) 0).1 (upN N k (num T len 4 (if k = 0 then p else p + 1) 0).2) else (0, if k = 0 then p else p + 1, N)
def pf (T : Nat → Nat) (len p : Nat) (N : Nat → Nat) : Nat × Nat × (Nat → Nat) := if many (T p) = 0 then (0, p, N) else if (rdn T len (many (T p)) 0 (p + 1) N).1 = 1 ∧ chr T len (rdn T len (many (T p)) 0 (p + 1) N).2.1 59 = 0 then (0, (rdn T len (many (T p)) 0 (p + 1) N).2.1, N) else ((rdn T len (many (T p)) 0 (p + 1) N).1, (rdn T len (many (T p)) 0 (p + 1) N).2.1 + (rdn T len (many (T p)) 0 (p + 1) N).1, (rdn T len (many (T p)) 0 (p + 1) N).2.2)
theorem chr_1 {T : Nat → Nat} {len p c : Nat} (h : chr T len p c ≠ 0) : p < len ∧ T p = c ∧ chr T len p c = 1 := by
  unfold chr at h ⊢
  split at h
  · rename_i q
    exact ⟨q.1, q.2, if_pos q⟩
  · exact absurd rfl h
theorem rdn_ok {T : Nat → Nat} {len : Nat} : ∀ j k p N, p ≤ len → (rdn T len j k p N).1 ≤ 1 ∧ p ≤ (rdn T len j k p N).2.1 ∧ (rdn T len j k p N).2.1 ≤ len
  | 0, k, p, N, h => ⟨Nat.le_refl _, Nat.le_refl _, h⟩
  | j + 1, k, p, N, h => by
    unfold rdn
    by_cases c : k ≠ 0 ∧ chr T len p 44 = 0
    · rw [if_pos c]; exact ⟨Nat.zero_le _, Nat.le_refl _, h⟩
    · rw [if_neg c]
      have hp : (if k = 0 then p else p + 1) ≤ len ∧ p ≤ (if k = 0 then p else p + 1) := by
        by_cases c2 : k = 0
        · rw [if_pos c2]; exact ⟨h, Nat.le_refl _⟩
        · rw [if_neg c2]
          have := (chr_1 (T := T) (len := len) (p := p) (c := 44) (fun e => c ⟨c2, e⟩)).1
          omega
      generalize (if k = 0 then p else p + 1) = q at *
      by_cases c3 : dg T len q = 1
      · rw [if_pos c3]
        have a := num_ge (T := T) (len := len) 4 q 0
        have b := num_le (T := T) (len := len) 4 q 0 hp.1
        have ih := rdn_ok (T := T) (len := len) j (k + 1) (num T len 4 q 0).1 (upN N k (num T len 4 q 0).2) b
        exact ⟨ih.1, by omega, ih.2.2⟩
      · rw [if_neg c3]; exact ⟨Nat.zero_le _, hp.2, hp.1⟩
theorem pf_ok {T : Nat → Nat} {len p : Nat} {N : Nat → Nat} (h : p < len) : (pf T len p N).1 ≤ 1 ∧ p ≤ (pf T len p N).2.1 ∧ (pf T len p N).2.1 ≤ len ∧ ((pf T len p N).1 = 1 → p < (pf T len p N).2.1 ∧ many (T p) ≠ 0) := by
  unfold pf
  by_cases c : many (T p) = 0
  · rw [if_pos c]; exact ⟨Nat.zero_le _, Nat.le_refl _, Nat.le_of_lt h, fun e => by cases e⟩
  · rw [if_neg c]
    have ok := rdn_ok (T := T) (len := len) (many (T p)) 0 (p + 1) N h
    generalize rdn T len (many (T p)) 0 (p + 1) N = R at *
    by_cases c2 : R.1 = 1 ∧ chr T len R.2.1 59 = 0
    · rw [if_pos c2]; exact ⟨Nat.zero_le _, show p ≤ R.2.1 by omega, ok.2.2, fun e => by cases e⟩
    · rw [if_neg c2]
      refine ⟨ok.1, show p ≤ R.2.1 + R.1 by omega, show R.2.1 + R.1 ≤ len from ?_, fun _ => ⟨show p < R.2.1 + R.1 by omega, c⟩⟩
      by_cases c3 : R.1 = 1
      · have := (chr_1 (T := T) (len := len) (p := R.2.1) (c := 59) (fun e => c2 ⟨c3, e⟩)).1
        omega
      · have := ok.2.2
        omega
