/-! the reference's small methods -/
def inI (v a b : Int32) : Int32 := if v < a then nI 0 else if b < v then nI 0 else nI 1
theorem ne_n {a b : Nat} (ha : a < 2 ^ 31) (hb : b < 2 ^ 31) (h : a ≠ b) : ¬ nI a = nI b := fun e => h ((nI_eq ha hb).1 e)
theorem ne_m1 {a : Nat} (ha : a < 2 ^ 31) : ¬ nI a = -1 := by
  intro e
  have h := congrArg Int32.toInt e
  rw [nI_toInt ha] at h
  have h2 : Int32.toInt (-1) = -1 := by decide
  omega
theorem toInt_pred {n : Nat} (h : n < 2 ^ 31) : (nI n - nI 1).toInt = (n : Int) - 1 := by
  cases n with
  | zero => decide
  | succ n => rw [pk_sub (by omega), nI_toInt (by omega)]; omega
theorem inI_y {n p : Nat} (hn : n < 2 ^ 31) (hp : p < n) : inI (nI p) (nI 0) (nI n - nI 1) = nI 1 := by
  unfold inI
  rw [if_neg (nI_nlt (Nat.zero_le _) (by omega)), if_neg]
  intro h
  have h2 := Int32.lt_iff_toInt_lt.1 h
  rw [toInt_pred hn, nI_toInt (by omega)] at h2
  omega
theorem inI_n {n : Nat} {v : Int32} (hn : n < 2 ^ 31) (hv : ¬ ∃ p, p < n ∧ v = nI p) : inI v (nI 0) (nI n - nI 1) = nI 0 := by
  unfold inI
  by_cases h : v < nI 0
  · rw [if_pos h]
  · rw [if_neg h, if_pos]
    rcases pk_ix v hn with h1 | h1 | ⟨j, hj, e⟩
    · exact absurd h1 h
    · apply Int32.lt_iff_toInt_lt.2
      have h2 := Int32.le_iff_toInt_le.1 h1
      rw [nI_toInt hn] at h2
      rw [toInt_pred hn]
      omega
    · exact absurd ⟨j, hj, e⟩ hv
/-! the pure state -/
def oth (s : Nat → Nat) (k p : Nat) : Nat := if s (30 + 6 * k + 0) = p then s (30 + 6 * k + 1) else if s (30 + 6 * k + 1) = p then s (30 + 6 * k + 0) else 10
def eI (n : Nat) : Int32 := if n = 10 then (-1) else nI n
def acr (s : Nat → Nat) (k p : Nat) : Nat := if s (30 + 6 * k + 4) = 1 then 10 else oth s k p
def wt (s : Nat → Nat) (k : Nat) : Nat := s (30 + 6 * k + 3) * 20 / s (30 + 6 * k + 2) + 1
def cg (s : Nat → Nat) (h b k : Nat) : Nat := if acr s k h = 10 then 0 else 1 - bit b (acr s k h)
def aw (s : Nat → Nat) (h b k : Nat) : Nat := if cg s h b k = 1 then wt s k else 0
def pOk (s : Nat → Nat) (k : Nat) : Prop := s (30 + 6 * k + 0) < s 0 ∧ s (30 + 6 * k + 1) < s 0 ∧ s (30 + 6 * k + 0) ≠ s (30 + 6 * k + 1) ∧ 1 ≤ s (30 + 6 * k + 2) ∧ s (30 + 6 * k + 2) ≤ 20 ∧ 1 ≤ s (30 + 6 * k + 3) ∧ s (30 + 6 * k + 3) ≤ 9999 ∧ s (30 + 6 * k + 4) ≤ 1
def Gph (s : Nat → Nat) : Prop := s 0 ≤ 10 ∧ s 1 ≤ 16 ∧ ∀ k, k < s 1 → pOk s k
theorem oth_10 {s : Nat → Nat} {k p : Nat} (h0 : s (30 + 6 * k + 0) < 10) (h1 : s (30 + 6 * k + 1) < 10) : oth s k p ≤ 10 := by
  unfold oth
  split
  · omega
  · split <;> omega
theorem acr_10 {s : Nat → Nat} {k p : Nat} (h0 : s (30 + 6 * k + 0) < 10) (h1 : s (30 + 6 * k + 1) < 10) : acr s k p ≤ 10 := by
  unfold acr
  split
  · omega
  · exact oth_10 h0 h1
theorem wt_le {s : Nat → Nat} {k : Nat} (h : pOk s k) : 1 ≤ wt s k ∧ wt s k ≤ 199981 := by
  unfold wt
  obtain ⟨_, _, _, h1, h2, h3, h4, _⟩ := h
  have h5 : s (30 + 6 * k + 3) * 20 / s (30 + 6 * k + 2) ≤ s (30 + 6 * k + 3) * 20 := Nat.div_le_self _ _
  generalize s (30 + 6 * k + 3) * 20 / s (30 + 6 * k + 2) = z at *
  omega
theorem eI_lt {n : Nat} (h : n < 10) : eI n = nI n := if_neg (by omega)
theorem eI_10 : eI 10 = -1 := if_pos rfl
theorem cg_le {s : Nat → Nat} {h b k : Nat} : cg s h b k ≤ 1 := by
  unfold cg
  split <;> omega
