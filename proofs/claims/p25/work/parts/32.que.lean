/-! the reference's answers that change nothing -/
def gtr (s : Nat → Nat) (k o : Nat) : Nat := if s (30 + 6 * o + 3) < s (30 + 6 * k + 3) then 1 else if s (30 + 6 * k + 3) = s (30 + 6 * o + 3) ∧ s (30 + 6 * k + 2) < s (30 + 6 * o + 2) then 1 else 0
def fI (n : Nat) : Int32 := if n = 16 then -1 else nI n
/-- the greatest path that can be taken, among the first n; 16 if there is none -/
def gp (s : Nat → Nat) (h b : Nat) : Nat → Nat
  | 0 => 16
  | k + 1 => if cg s h b k = 1 ∧ (gp s h b k = 16 ∨ gtr s k (gp s h b k) = 1) then k else gp s h b k
theorem gp_ok {s : Nat → Nat} {h b : Nat} : ∀ n, n ≤ 16 → gp s h b n = 16 ∨ gp s h b n < n ∧ cg s h b (gp s h b n) = 1
  | 0, _ => Or.inl rfl
  | k + 1, hk => by
    unfold gp
    by_cases c : cg s h b k = 1 ∧ (gp s h b k = 16 ∨ gtr s k (gp s h b k) = 1)
    · rw [if_pos c]; exact Or.inr ⟨by omega, c.1⟩
    · rw [if_neg c]
      rcases gp_ok k (by omega) with h1 | ⟨h1, h2⟩
      · exact Or.inl h1
      · exact Or.inr ⟨by omega, h2⟩
theorem gtr_le {s : Nat → Nat} {k o : Nat} : gtr s k o ≤ 1 := by
  unfold gtr
  split
  · exact Nat.le_refl _
  · split <;> omega
def lastB (f : Nat → Nat) : Nat → Option Value
  | 0 => none
  | k + 1 => some (.int (nI (f k)))
def gwalk (s : Nat → Nat) : Nat → (Nat × Nat × Nat × Nat × (Nat → Nat)) → (Nat × Nat × Nat × Nat × (Nat → Nat))
  | 0, W => W
  | n + 1, W => if hr W = s 7 then W else if gp s (hr W) W.2.2.2.1 (s 1) = 16 then W else gwalk s n (adv s W (gp s (hr W) W.2.2.2.1 (s 1)))
def gW (s : Nat → Nat) : (Nat × Nat × Nat × Nat × (Nat → Nat)) := gwalk s 10 W0
theorem gwalk_ok {s : Nat → Nat} (g : Gph s) : ∀ (n : Nat) (W : (Nat × Nat × Nat × Nat × (Nat → Nat))), W.2.1 + n = 10 → IW s W → IW s (gwalk s n W)
  | 0, W, hn, i => i
  | n + 1, W, hn, i => by
    unfold gwalk
    by_cases c1 : hr W = s 7
    · rw [if_pos c1]; exact i
    · rw [if_neg c1]
      by_cases c2 : gp s (hr W) W.2.2.2.1 (s 1) = 16
      · rw [if_pos c2]; exact i
      · rw [if_neg c2]
        rcases gp_ok (s := s) (h := hr W) (b := W.2.2.2.1) (s 1) g.2.1 with h | ⟨h1, h2⟩
        · exact absurd h c2
        · exact gwalk_ok g n _ (by show W.2.1 + 1 + n = 10; omega) (IW_adv g i h1 h2).2
def aGreedy (s : Nat → Nat) (w : Nat) : Nat := if w = 0 then (gW s).1 else if w = 1 then (gW s).2.1 else if w = 3 then hr (gW s) else if hr (gW s) = s 7 then 1 else 0
/-- which question a number asks -/
def qIn (x : Int32) (n : Nat) : Prop := ∃ w, w ≤ n ∧ x = nI w
def rGreedy (s : Nat → Nat) (x r : Int32) : Prop := (∃ w, w ≤ 3 ∧ x = nI w ∧ (s 0 < 2 ∧ r = -1000000002 ∨ 2 ≤ s 0 ∧ r = nI (aGreedy s w))) ∨ (¬ qIn x 3) ∧ r = -1000000001
theorem rGreedy_ex {s : Nat → Nat} (x : Int32) : ∃ r, rGreedy s x r := by
  by_cases h : qIn x 3
  · obtain ⟨w, hw, e⟩ := h
    by_cases h2 : s 0 < 2
    · exact ⟨_, Or.inl ⟨w, hw, e, Or.inl ⟨h2, rfl⟩⟩⟩
    · exact ⟨_, Or.inl ⟨w, hw, e, Or.inr ⟨by omega, rfl⟩⟩⟩
  · exact ⟨_, Or.inr ⟨h, rfl⟩⟩
theorem inI_q {x : Int32} {n : Nat} (hn : n < 1000) (h : ¬ qIn x n) : inI x (nI 0) (nI n) = nI 0 := inI_d (by omega) (by omega) (fun ⟨w, _, h2, h3⟩ => h ⟨w, h2, h3⟩)
theorem inI_w {n w : Nat} (hn : n < 1000) (h : w ≤ n) : inI (nI w) (nI 0) (nI n) = nI 1 := inI_c (by omega) (by omega) (Nat.zero_le _) h rfl
