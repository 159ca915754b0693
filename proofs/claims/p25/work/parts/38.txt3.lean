def N0 : Nat → Nat := fun _ => 0
section TXT
variable {σ : Sg} {len : Nat} {T : Nat → Nat}
/-- one order -/
def oOne (s : Nat → Nat) (c : Nat) (N : Nat → Nat) (r : Int32) (t : Nat → Nat) : Prop := (c = 112 ∧ oPath s (nI (N 0)) (nI (N 1)) (nI (N 2)) r t) ∨ (c = 99 ∧ oClose s (nI (N 0)) 1 r t) ∨ (c = 111 ∧ oClose s (nI (N 0)) 0 r t) ∨ (c = 102 ∧ oFood s (nI (N 0)) r t) ∨ (c = 115 ∧ oSet s (nI (N 0)) (nI (N 1)) r t) ∨ (c = 108 ∧ oLap s (nI (N 0)) r t)
theorem many_c {c : Nat} (h : many c ≠ 0) : c = 112 ∨ c = 99 ∨ c = 111 ∨ c = 102 ∨ c = 115 ∨ c = 108 := by
  unfold many at h
  split at h
  · omega
  · split at h
    · omega
    · split at h
      · omega
      · omega
theorem oOne_ex {s : Nat → Nat} (i : Inv s) {c : Nat} (h : many c ≠ 0) (N : Nat → Nat) : ∃ r t, oOne s c N r t := by
  rcases many_c h with e | e | e | e | e | e
  · obtain ⟨r, t, o⟩ := oPath_ex i (nI (N 0)) (nI (N 1)) (nI (N 2))
    exact ⟨r, t, Or.inl ⟨e, o⟩⟩
  · obtain ⟨r, t, o⟩ := oClose_ex (s := s) (nI (N 0)) 1
    exact ⟨r, t, Or.inr (Or.inl ⟨e, o⟩)⟩
  · obtain ⟨r, t, o⟩ := oClose_ex (s := s) (nI (N 0)) 0
    exact ⟨r, t, Or.inr (Or.inr (Or.inl ⟨e, o⟩))⟩
  · obtain ⟨r, t, o⟩ := oFood_ex (s := s) (nI (N 0))
    exact ⟨r, t, Or.inr (Or.inr (Or.inr (Or.inl ⟨e, o⟩)))⟩
  · obtain ⟨r, t, o⟩ := oSet_ex (s := s) (nI (N 0)) (nI (N 1))
    exact ⟨r, t, Or.inr (Or.inr (Or.inr (Or.inr (Or.inl ⟨e, o⟩))))⟩
  · obtain ⟨r, t, o⟩ := oLap_ex (s := s) (nI (N 0))
    exact ⟨r, t, Or.inr (Or.inr (Or.inr (Or.inr (Or.inr ⟨e, o⟩))))⟩
theorem oOne_inv {s : Nat → Nat} (i : Inv s) {c : Nat} {N : Nat → Nat} {r : Int32} {t : Nat → Nat} (o : oOne s c N r t) : Inv t ∧ (er r ∧ t = s ∨ nr r) := by
  rcases o with ⟨_, o⟩ | ⟨_, o⟩ | ⟨_, o⟩ | ⟨_, o⟩ | ⟨_, o⟩ | ⟨_, o⟩
  · exact oPath_inv i o
  · exact oClose_inv i (by omega) o
  · exact oClose_inv i (by omega) o
  · exact oFood_inv i o
  · exact oSet_inv i o
  · exact oLap_inv i o
/-- all orders, up to the first that is not possible: its kind of fault (0 for none), where, the cause; how many were done -/
def Run (T : Nat → Nat) (len : Nat) : Nat → (Nat → Nat) → Nat → Nat → Nat × Nat × Int32 × Nat → (Nat → Nat) → Prop
  | 0, _, _, _, _, _ => False
  | f + 1, s, p, d, u, t => (len ≤ p ∧ u = (0, 0, 0, d) ∧ t = s) ∨ (p < len ∧ (pf T len p N0).1 = 0 ∧ u = (1, p, nI ((pf T len p N0).2.1 - p), d) ∧ t = s) ∨ (p < len ∧ (pf T len p N0).1 = 1 ∧ ∃ r s1, oOne s (T p) (pf T len p N0).2.2 r s1 ∧ ((er r ∧ u = (2, p, r, d) ∧ t = s1) ∨ (nr r ∧ Run T len f s1 (pf T len p N0).2.1 (d + 1) u t)))
theorem Run_ex : ∀ (f : Nat) (s : Nat → Nat) (p d : Nat), Inv s → p ≤ len → len < p + f → ∃ u t, Run T len f s p d u t
  | 0, s, p, d, i, hl, h => by omega
  | f + 1, s, p, d, i, hl, h => by
    by_cases c : len ≤ p
    · exact ⟨_, _, Or.inl ⟨c, rfl, rfl⟩⟩
    · have ok := pf_ok (T := T) (len := len) (p := p) (N := N0) (by omega)
      by_cases c2 : (pf T len p N0).1 = 0
      · exact ⟨_, _, Or.inr (Or.inl ⟨by omega, c2, rfl, rfl⟩)⟩
      · have c3 : (pf T len p N0).1 = 1 := by omega
        obtain ⟨ok1, ok2⟩ := ok.2.2.2 c3
        obtain ⟨r, s1, o⟩ := oOne_ex i ok2 (pf T len p N0).2.2
        obtain ⟨j, q⟩ := oOne_inv i o
        by_cases c4 : er r
        · exact ⟨_, _, Or.inr (Or.inr ⟨by omega, c3, r, s1, o, Or.inl ⟨c4, rfl, rfl⟩⟩)⟩
        · have c5 : nr r := by
            rcases q with q | q
            · exact absurd q.1 c4
            · exact q
          obtain ⟨u, t, h2⟩ := Run_ex f s1 (pf T len p N0).2.1 (d + 1) j ok.2.2.1 (by omega)
          exact ⟨u, t, Or.inr (Or.inr ⟨by omega, c3, r, s1, o, Or.inr ⟨c5, h2⟩⟩)⟩
theorem Run_inv : ∀ (f : Nat) (s : Nat → Nat) (p d : Nat) (u : Nat × Nat × Int32 × Nat) (t : Nat → Nat), Inv s → Run T len f s p d u t → Inv t ∧ u.1 ≤ 2 ∧ u.2.2.2 ≤ d + f
  | 0, s, p, d, u, t, i, h => h.elim
  | f + 1, s, p, d, u, t, i, h => by
    rcases h with ⟨h1, h2, h3⟩ | ⟨h1, h2, h3, h4⟩ | ⟨h1, h2, r, s1, o, ⟨h3, h4, h5⟩ | ⟨h3, h4⟩⟩
    · rw [h2, h3]; exact ⟨i, show 0 ≤ 2 by omega, show d ≤ d + (f + 1) by omega⟩
    · rw [h3, h4]; exact ⟨i, show 1 ≤ 2 by omega, show d ≤ d + (f + 1) by omega⟩
    · rw [h4, h5]; exact ⟨(oOne_inv i o).1, show 2 ≤ 2 by omega, show d ≤ d + (f + 1) by omega⟩
    · obtain ⟨a, b, c⟩ := Run_inv f s1 _ (d + 1) u t (oOne_inv i o).1 h4
      exact ⟨a, b, by omega⟩
end TXT
