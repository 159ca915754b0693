/-! answers that are errors, and answers that are none -/
def er (v : Int32) : Prop := v = -1000000001 ∨ v = -1000000002 ∨ v = -1000000003 ∨ v = -1000000004
def nr (v : Int32) : Prop := -1000000000 ≤ v.toInt
theorem nr_nI {n : Nat} (h : n < 2 ^ 31) : nr (nI n) := by unfold nr; rw [nI_toInt h]; omega
theorem nr_sub {a b : Nat} (ha : a < 2 ^ 29) (hb : b < 2 ^ 29) : nr (nI a - nI b) := by
  unfold nr
  rw [pk_sub_toInt (by omega) (by omega)]
  omega
def cp (n : Nat) (f g : Nat → Int32) : Nat → Int32 := fun j => if j < n then f j else g j
theorem cp_0 {f g : Nat → Int32} : cp 0 f g = g := by
  funext j
  exact if_neg (by omega)
theorem cp_up {f g : Nat → Int32} {n : Nat} : upI (cp n f g) n (f n) = cp (n + 1) f g := by
  funext j
  unfold upI cp
  by_cases c : j = n
  · subst c
    rw [if_pos rfl, if_pos (by omega)]
  · rw [if_neg c]
    by_cases c2 : j < n
    · rw [if_pos c2, if_pos (by omega)]
    · rw [if_neg c2, if_neg (by omega)]
/-- the saved states, one more put down -/
def sv (f g : Nat → Int32) (n k : Nat) : Nat → Int32 := fun j => if 146 * n ≤ j ∧ j < 146 * n + k then f (j - 146 * n) else g j
theorem sv_0 {f g : Nat → Int32} {n : Nat} : sv f g n 0 = g := by
  funext j
  exact if_neg (by omega)
theorem sv_up {f g : Nat → Int32} {n k : Nat} : upI (sv f g n k) (146 * n + k) (f k) = sv f g n (k + 1) := by
  funext j
  unfold upI sv
  by_cases c : j = 146 * n + k
  · subst c
    rw [if_pos rfl, if_pos (by omega), show 146 * n + k - 146 * n = k by omega]
  · rw [if_neg c]
    by_cases c2 : 146 * n ≤ j ∧ j < 146 * n + k
    · rw [if_pos c2, if_pos (by omega)]
    · rw [if_neg c2, if_neg (by omega)]
/-- the saved states moved on -/
def mv (g : Nat → Int32) (k : Nat) : Nat → Int32 := fun j => if j < k then g (j + 146) else g j
theorem mv_up {g : Nat → Int32} {k : Nat} : upI (mv g k) k (mv g k (k + 146)) = mv g (k + 1) := by
  funext j
  unfold upI mv
  by_cases c : j = k
  · subst c
    rw [if_pos rfl, if_neg (by omega), if_pos (by omega)]
  · rw [if_neg c]
    by_cases c2 : j < k
    · rw [if_pos c2, if_pos (by omega)]
    · rw [if_neg c2, if_neg (by omega)]
