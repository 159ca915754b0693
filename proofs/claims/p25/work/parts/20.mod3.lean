/-! a way: how long, how many paths, their set, the set of the places, the places -/
def hr (W : (Nat × Nat × Nat × Nat × (Nat → Nat))) : Nat := W.2.2.2.2 W.2.1
def W0 : (Nat × Nat × Nat × Nat × (Nat → Nat)) := (0, 0, 0, 1, fun _ => 0)
def adv (s : Nat → Nat) (W : (Nat × Nat × Nat × Nat × (Nat → Nat))) (k : Nat) : (Nat × Nat × Nat × Nat × (Nat → Nat)) := (W.1 + s (30 + 6 * k + 2), W.2.1 + 1, W.2.2.1 ||| 2 ^ k, W.2.2.2.1 ||| 2 ^ acr s k (hr W), upN W.2.2.2.2 (W.2.1 + 1) (acr s k (hr W)))
def RV (M : Mem) (W : (Nat × Nat × Nat × Nat × (Nat → Nat))) : Prop := M 106 8 = nI (hr W) ∧ M 106 9 = nI W.1 ∧ M 106 10 = nI W.2.1 ∧ M 106 11 = nI W.2.2.1 ∧ M 106 12 = nI W.2.2.2.1 ∧ ∀ i, i ≤ W.2.1 → M 113 i = nI (W.2.2.2.2 i)
/-! the drawing of a path -/
def sm (s : Nat → Nat) (h b : Nat) : Nat := sumTo (aw s h b) (s 1)
def nx (x : Nat) : Nat := x * 16807 % 2147483647
def pick (f : Nat → Nat) (d : Nat) : Nat → Nat
  | 0 => 0
  | n + 1 => if sumTo f n ≤ d then n else pick f d n
theorem pick_spec {f : Nat → Nat} {d : Nat} : ∀ {n : Nat}, d < sumTo f n → pick f d n < n ∧ sumTo f (pick f d n) ≤ d ∧ d < sumTo f (pick f d n + 1)
  | 0, h => absurd h (Nat.not_lt_zero _)
  | n + 1, h => by
    unfold pick
    by_cases c : sumTo f n ≤ d
    · rw [if_pos c]; exact ⟨Nat.lt_succ_self _, c, h⟩
    · rw [if_neg c]
      have ih := pick_spec (f := f) (d := d) (n := n) (by omega)
      exact ⟨by omega, ih.2⟩
theorem sumTo_mono {f : Nat → Nat} : ∀ {a b : Nat}, a ≤ b → sumTo f a ≤ sumTo f b
  | a, 0, h => by rw [Nat.le_zero.1 h]; exact Nat.le_refl _
  | a, b + 1, h => by
    by_cases c : a = b + 1
    · rw [c]; exact Nat.le_refl _
    · have := sumTo_mono (f := f) (a := a) (b := b) (by omega)
      simp only [sumTo]
      omega
/-- the same places and paths -/
def Eqg (s s' : Nat → Nat) : Prop := s' 0 = s 0 ∧ s' 1 = s 1 ∧ ∀ k w, w < 5 → k < 16 → s' (30 + 6 * k + w) = s (30 + 6 * k + w)
theorem eqg_Gph {s s' : Nat → Nat} (e : Eqg s s') (g : Gph s) : Gph s' := by
  obtain ⟨e0, e1, e2⟩ := e
  obtain ⟨g0, g1, g2⟩ := g
  refine ⟨by omega, by omega, fun k hk => ?_⟩
  have h := g2 k (by omega)
  unfold pOk at h ⊢
  rw [e0, e2 k 0 (by omega) (by omega), e2 k 1 (by omega) (by omega), e2 k 2 (by omega) (by omega), e2 k 3 (by omega) (by omega), e2 k 4 (by omega) (by omega)]
  exact h
theorem eqg_acr {s s' : Nat → Nat} (e : Eqg s s') {k p : Nat} (hk : k < 16) : acr s' k p = acr s k p := by
  obtain ⟨e0, e1, e2⟩ := e
  unfold acr oth
  rw [e2 k 0 (by omega) (by omega), e2 k 1 (by omega) (by omega), e2 k 4 (by omega) (by omega)]
theorem eqg_wt {s s' : Nat → Nat} (e : Eqg s s') {k : Nat} (hk : k < 16) : wt s' k = wt s k := by
  obtain ⟨e0, e1, e2⟩ := e
  unfold wt
  rw [e2 k 2 (by omega) (by omega), e2 k 3 (by omega) (by omega)]
theorem eqg_cg {s s' : Nat → Nat} (e : Eqg s s') {h b k : Nat} (hk : k < 16) : cg s' h b k = cg s h b k := by
  unfold cg
  rw [eqg_acr e hk]
theorem eqg_aw {s s' : Nat → Nat} (e : Eqg s s') {h b k : Nat} (hk : k < 16) : aw s' h b k = aw s h b k := by
  unfold aw
  rw [eqg_cg e hk, eqg_wt e hk]
theorem eqg_8 {s : Nat → Nat} {x : Nat} : Eqg s (upN s 8 x) := ⟨upN_n (by omega), upN_n (by omega), fun k w _ _ => upN_n (by omega)⟩
theorem aw_le {s : Nat → Nat} {h b k : Nat} (p : pOk s k) : aw s h b k ≤ 199981 := by
  unfold aw
  have := wt_le p
  split <;> omega
theorem sm_le {s : Nat → Nat} {h b : Nat} (g : Gph s) {n : Nat} (hn : n ≤ s 1) : sumTo (aw s h b) n ≤ 3199696 := by
  have h1 := sumTo_le (f := aw s h b) (c := 199981) (n := n) (fun k hk => aw_le (g.2.2 k (by omega)))
  have h2 : n * 199981 ≤ 16 * 199981 := Nat.mul_le_mul_right _ (by have := g.2.1; omega)
  omega
def lastI (f : Nat → Nat) : Nat → Option Value
  | 0 => none
  | k + 1 => some (.int (nI (f k)))
def pth (s : Nat → Nat) (h b : Nat) : Nat := pick (aw s h b) (nx (s 8) % sm s h b) (s 1)
