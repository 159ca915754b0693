/-- the trails of the first n paths made anew -/
def mapT (s : Nat → Nat) (n : Nat) (f : Nat → Nat) : Nat → Nat := fun j => if 30 ≤ j ∧ j < 30 + 6 * n ∧ j % 6 = 3 then f ((j - 30) / 6) else s j
theorem mapT_0 {s f : Nat → Nat} : mapT s 0 f = s := by
  funext j
  unfold mapT
  rw [if_neg (by omega)]
theorem mapT_lo {s f : Nat → Nat} {n j : Nat} (h : j < 30) : mapT s n f j = s j := by
  unfold mapT
  rw [if_neg (by omega)]
theorem mapT_3 {s f : Nat → Nat} {n k : Nat} (h : k < n) : mapT s n f (30 + 6 * k + 3) = f k := by
  unfold mapT
  rw [if_pos (by omega), show (30 + 6 * k + 3 - 30) / 6 = k by omega]
theorem mapT_3n {s f : Nat → Nat} {n k : Nat} (h : n ≤ k) : mapT s n f (30 + 6 * k + 3) = s (30 + 6 * k + 3) := by
  unfold mapT
  rw [if_neg (by omega)]
theorem mapT_w {s f : Nat → Nat} {n k w : Nat} (h : w ≠ 3) (h2 : w < 6) : mapT s n f (30 + 6 * k + w) = s (30 + 6 * k + w) := by
  unfold mapT
  rw [if_neg (by omega)]
theorem mapT_up {s f : Nat → Nat} {n : Nat} : upN (mapT s n f) (30 + 6 * n + 3) (f n) = mapT s (n + 1) f := by
  funext j
  by_cases c : j = 30 + 6 * n + 3
  · subst c
    rw [upN_s, mapT_3 (by omega)]
  · rw [upN_n c]
    unfold mapT
    by_cases c2 : 30 ≤ j ∧ j < 30 + 6 * n ∧ j % 6 = 3
    · rw [if_pos c2, if_pos (by omega)]
    · rw [if_neg c2, if_neg (by omega)]
theorem mapT_mapT {s f g : Nat → Nat} {n : Nat} : mapT (mapT s n f) n g = mapT s n g := by
  funext j
  unfold mapT
  by_cases c2 : 30 ≤ j ∧ j < 30 + 6 * n ∧ j % 6 = 3
  · rw [if_pos c2, if_pos c2]
  · rw [if_neg c2, if_neg c2, if_neg c2]
theorem mapT_congr {s f g : Nat → Nat} {n : Nat} (h : ∀ k, k < n → f k = g k) : mapT s n f = mapT s n g := by
  funext j
  unfold mapT
  by_cases c2 : 30 ≤ j ∧ j < 30 + 6 * n ∧ j % 6 = 3
  · rw [if_pos c2, if_pos c2, h _ (by omega)]
  · rw [if_neg c2, if_neg c2]
/-- the best way so far, its first n places put down -/
def isb (s : Nat → Nat) (W : (Nat × Nat × Nat × Nat × (Nat → Nat))) (n : Nat) : Nat → Nat := fun j => if j = 9 then W.1 else if j = 10 then W.2.1 else if j = 11 then s 2 else if j = 12 then W.2.2.1 else if 20 ≤ j ∧ j < 20 + n then W.2.2.2.2 (j - 20) else s j
theorem isb_0 {s : Nat → Nat} {W : (Nat × Nat × Nat × Nat × (Nat → Nat))} : upN (upN (upN (upN s 9 W.1) 10 W.2.1) 11 (s 2)) 12 W.2.2.1 = isb s W 0 := by
  funext j
  unfold upN isb
  by_cases c1 : j = 12
  · subst c1; simp
  · by_cases c2 : j = 11
    · subst c2; simp
    · by_cases c3 : j = 10
      · subst c3; simp
      · by_cases c4 : j = 9
        · subst c4; simp
        · rw [if_neg c1, if_neg c2, if_neg c3, if_neg c4, if_neg c4, if_neg c3, if_neg c2, if_neg c1, if_neg (by omega)]
theorem isb_up {s : Nat → Nat} {W : (Nat × Nat × Nat × Nat × (Nat → Nat))} {n : Nat} : upN (isb s W n) (20 + n) (W.2.2.2.2 n) = isb s W (n + 1) := by
  funext j
  by_cases c : j = 20 + n
  · subst c
    rw [upN_s]
    unfold isb
    rw [if_neg (by omega), if_neg (by omega), if_neg (by omega), if_neg (by omega), if_pos (by omega), show 20 + n - 20 = n by omega]
  · rw [upN_n c]
    unfold isb
    by_cases c2 : 20 ≤ j ∧ j < 20 + n
    · rw [if_pos c2, if_pos (show 20 ≤ j ∧ j < 20 + (n + 1) by omega)]
    · rw [if_neg c2, if_neg (show ¬ (20 ≤ j ∧ j < 20 + (n + 1)) by omega)]
