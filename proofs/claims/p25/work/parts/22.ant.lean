theorem pth_mk {s : Nat → Nat} (g : Gph s) {x : Nat} {W : (Nat × Nat × Nat × Nat × (Nat → Nat))} : pth (mkS s x W.2.2.1 W.2.2.2.1) (hr W) W.2.2.2.1 = pkx s x W := eqg_pkx (s := s) (s' := mkS s x W.2.2.1 W.2.2.2.1) (x := x) (W := W) eqg_mk g
theorem RV_fr {M N : Mem} {W : (Nat × Nat × Nat × Nat × (Nat → Nat))} (h : RV M W) (h1 : N 106 = M 106) (h2 : N 113 = M 113) : RV N W := by
  unfold RV at h ⊢
  rw [h1, h2]
  exact h
theorem upI_self {f : Nat → Int32} {k : Nat} {x : Int32} (h : f k = x) : upI f k x = f := by
  funext j
  unfold upI
  split
  · rename_i e
    rw [e, h]
  · rfl
theorem RV_13 {M : Mem} {W : (Nat × Nat × Nat × Nat × (Nat → Nat))} {x : Int32} (h : RV M W) : RV (upM M 106 (upI (M 106) 13 x)) W := h
theorem fin_eq {S : Nat → Nat} {h y a b c d : Nat} (hh : h < 10) (hy : y = 0 ∧ a = 0 ∧ b = 1 ∧ c = 0 ∧ d = 0 ∨ y = 1 ∧ a = 1 ∧ b = 0 ∧ c = 1 ∧ d = 0 ∨ y = 2 ∧ a = 0 ∧ b = 0 ∧ c = 0 ∧ d = 1) : upN (upN (upN (upN (upN S (126 + 2 * h + 1) (S (126 + 2 * h + 1) + a)) 3 (S 3 + 1)) 4 (S 4 + b)) 5 (S 5 + c)) 6 (S 6 + d) = fin S h y := by
  funext j
  unfold upN fin
  rcases hy with ⟨h1, h2, h3, h4, h5⟩ | ⟨h1, h2, h3, h4, h5⟩ | ⟨h1, h2, h3, h4, h5⟩ <;> subst h1 h2 h3 h4 h5
  all_goals
    by_cases c1 : j = 126 + 2 * h + 1
    · subst c1
      repeat rw [if_neg (by omega)]
      simp [show 127 + 2 * h = 126 + 2 * h + 1 by omega]
    · rw [if_neg (show ¬ j = 127 + 2 * h by omega), if_neg c1]
      by_cases c6 : j = 6
      · subst c6; simp
      · by_cases c5 : j = 5
        · subst c5; simp
        · by_cases c4 : j = 4
          · subst c4; simp
          · by_cases c3 : j = 3
            · subst c3; simp
            · simp [c3, c4, c5, c6]
