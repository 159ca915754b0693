def lapN (s : Nat → Nat) : Nat → (Nat → Nat)
  | 0 => s
  | n + 1 => lapS (lapN s n)
theorem antS_4 {s : Nat → Nat} : s 4 ≤ antS s 4 ∧ antS s 4 ≤ s 4 + 1 := by
  have h : ∀ {S : Nat → Nat} {h y : Nat}, fin S h y 4 = if y = 0 then S 4 + 1 else S 4 := fun {S h y} => by
    unfold fin
    rw [if_neg (by omega), if_neg (by omega)]
    by_cases c : y = 0
    · rw [if_pos c, if_pos (by omega)]
    · rw [if_neg c, if_neg (by omega)]
  have e : antS s 4 = _ := h
  rw [mk_lo (by omega) (by omega)] at e
  rw [e]
  split <;> omega
theorem stp_4 {s : Nat → Nat} (i : Inv s) (h2 : 2 ≤ s 0) : s 4 ≤ stp s 4 ∧ stp s 4 ≤ s 4 + 1 := by
  have h := @antS_4 s
  have w := wlk_ok i h2
  have w1 := w.2.1.1
  unfold stp bst
  split
  · split
    · rw [isb_n (by omega) (by omega)]; exact h
    · exact h
  · exact h
theorem lapA_4 {s : Nat → Nat} (i : Inv s) (h2 : 2 ≤ s 0) : ∀ n, s 4 ≤ lapA s n 4 ∧ lapA s n 4 ≤ s 4 + n
  | 0 => ⟨Nat.le_refl _, Nat.le_refl _⟩
  | n + 1 => by
    have ih := lapA_4 i h2 n
    obtain ⟨a, b⟩ := lapA_ok i h2 n
    have h := stp_4 a (by rw [b.1.1]; exact h2)
    have e : lapA s (n + 1) 4 = stp (lapA s n) 4 := rfl
    omega
theorem lapS_ok {s : Nat → Nat} (i : Inv s) (h2 : 2 ≤ s 0) : Inv (lapS s) ∧ lapS s 0 = s 0 ∧ s 4 ≤ lapS s 4 ∧ lapS s 4 ≤ s 4 + 5 := by
  obtain ⟨a, b⟩ := lapA_ok i h2 (s 13)
  have h4 := lapA_4 i h2 (s 13)
  obtain ⟨e1, e2, e3, e4, e5⟩ := endS_ok (L := fun k => lapL s k (s 13)) a
  have i2 := i.2.1
  unfold sOk at i2
  unfold lapS
  exact ⟨e1, by rw [e2, b.1.1], by omega, by omega⟩
theorem lapN_ok {s : Nat → Nat} (i : Inv s) (h2 : 2 ≤ s 0) : ∀ n, Inv (lapN s n) ∧ lapN s n 0 = s 0 ∧ s 4 ≤ lapN s n 4 ∧ lapN s n 4 ≤ s 4 + 5 * n
  | 0 => ⟨i, rfl, Nat.le_refl _, Nat.le_refl _⟩
  | n + 1 => by
    obtain ⟨a, b, c, d⟩ := lapN_ok i h2 n
    obtain ⟨a2, b2, c2, d2⟩ := lapS_ok a (by omega)
    exact ⟨a2, b2.trans b, Nat.le_trans c c2, show lapS (lapN s n) 4 ≤ s 4 + 5 * (n + 1) by omega⟩
