/-! how far the places are: a round over the paths, and when the rounds change no more -/
def up1 (d : Nat → Nat) (v u l : Nat) : Nat → Nat := upN d v (if d u + l < d v then d u + l else d v)
def rx (s : Nat → Nat) (k : Nat) (d : Nat → Nat) : Nat → Nat := if s (30 + 6 * k + 4) = 1 then d else up1 (up1 d (s (30 + 6 * k + 0)) (s (30 + 6 * k + 1)) (s (30 + 6 * k + 2))) (s (30 + 6 * k + 1)) (s (30 + 6 * k + 0)) (s (30 + 6 * k + 2))
def rds (s : Nat → Nat) (d : Nat → Nat) : Nat → (Nat → Nat)
  | 0 => d
  | n + 1 => rx s n (rds s d n)
def D0 : Nat → Nat := fun p => if p = 0 then 0 else 1000
def Dr (s : Nat → Nat) : Nat → (Nat → Nat)
  | 0 => D0
  | r + 1 => rds s (Dr s r) (s 1)
def Ed (s : Nat → Nat) (u v l : Nat) : Prop := ∃ k, k < s 1 ∧ s (30 + 6 * k + 4) ≠ 1 ∧ l = s (30 + 6 * k + 2) ∧ (u = s (30 + 6 * k + 0) ∧ v = s (30 + 6 * k + 1) ∨ u = s (30 + 6 * k + 1) ∧ v = s (30 + 6 * k + 0))
theorem up1_le {d : Nat → Nat} {v u l p : Nat} : up1 d v u l p ≤ d p := by
  unfold up1 upN
  split
  · rename_i e
    subst e
    split <;> omega
  · exact Nat.le_refl _
theorem rx_le {s d : Nat → Nat} {k p : Nat} : rx s k d p ≤ d p := by
  unfold rx
  split
  · exact Nat.le_refl _
  · exact Nat.le_trans up1_le up1_le
theorem rds_le {s d : Nat → Nat} {p : Nat} : ∀ n, rds s d n p ≤ d p
  | 0 => Nat.le_refl _
  | n + 1 => Nat.le_trans rx_le (rds_le n)
/-- a fixed floor -/
def Fl (s e : Nat → Nat) : Prop := ∀ u v l, Ed s u v l → e v ≤ e u + l
theorem up1_ge {e d : Nat → Nat} {v u l p : Nat} (h : e v ≤ e u + l) (hd : ∀ p, e p ≤ d p) : e p ≤ up1 d v u l p := by
  unfold up1 upN
  have h1 := hd v
  have h2 := hd u
  have h3 := hd p
  split
  · rename_i e
    subst e
    split <;> omega
  · exact h3
theorem ed1 {s : Nat → Nat} {k : Nat} (hk : k < s 1) (hc : s (30 + 6 * k + 4) ≠ 1) : Ed s (s (30 + 6 * k + 1)) (s (30 + 6 * k + 0)) (s (30 + 6 * k + 2)) ∧ Ed s (s (30 + 6 * k + 0)) (s (30 + 6 * k + 1)) (s (30 + 6 * k + 2)) := ⟨⟨k, hk, hc, rfl, Or.inr ⟨rfl, rfl⟩⟩, ⟨k, hk, hc, rfl, Or.inl ⟨rfl, rfl⟩⟩⟩
theorem rx_ge {s e d : Nat → Nat} {k p : Nat} (f : Fl s e) (hk : k < s 1) (hd : ∀ p, e p ≤ d p) : e p ≤ rx s k d p := by
  unfold rx
  split
  · exact hd p
  · rename_i hc
    obtain ⟨a, b⟩ := ed1 hk hc
    exact up1_ge (f _ _ _ b) (fun p => up1_ge (f _ _ _ a) hd)
theorem rds_ge {s e d : Nat → Nat} (f : Fl s e) (hd : ∀ p, e p ≤ d p) : ∀ n, n ≤ s 1 → ∀ p, e p ≤ rds s d n p
  | 0, _, p => hd p
  | n + 1, hn, p => rx_ge f (by omega) (rds_ge f hd n (by omega))
/-- what is reached has been reached from somewhere -/
def Su (s d : Nat → Nat) : Prop := ∀ v, v ≠ 0 → d v < 1000 → ∃ u l, Ed s u v l ∧ d u + l ≤ d v
theorem up1_su {s d : Nat → Nat} {v u l : Nat} (h : Ed s u v l) (n : u ≠ v) (hd : Su s d) : Su s (up1 d v u l) := by
  intro w w0 hw
  by_cases c : w = v
  · subst c
    have hu : up1 d w u l u = d u := upN_n n
    have hv : up1 d w u l w = if d u + l < d w then d u + l else d w := upN_s
    by_cases c2 : d u + l < d w
    · rw [if_pos c2] at hv
      exact ⟨u, l, h, by rw [hu, hv]; exact Nat.le_refl _⟩
    · rw [if_neg c2] at hv
      rw [hv] at hw
      obtain ⟨u2, l2, e2, h2⟩ := hd w w0 hw
      exact ⟨u2, l2, e2, by rw [hv]; exact Nat.le_trans (Nat.add_le_add_right up1_le _) h2⟩
  · have hw2 : up1 d v u l w = d w := upN_n c
    rw [hw2] at hw ⊢
    obtain ⟨u2, l2, e2, h2⟩ := hd w w0 hw
    exact ⟨u2, l2, e2, Nat.le_trans (Nat.add_le_add_right up1_le _) h2⟩
theorem rx_su {s d : Nat → Nat} {k : Nat} (g : Gph s) (hk : k < s 1) (hd : Su s d) : Su s (rx s k d) := by
  unfold rx
  split
  · exact hd
  · rename_i hc
    obtain ⟨a, b⟩ := ed1 hk hc
    have p := (g.2.2 k hk).2.2.1
    exact up1_su b p (up1_su a (Ne.symm p) hd)
theorem rds_su {s d : Nat → Nat} (g : Gph s) (hd : Su s d) : ∀ n, n ≤ s 1 → Su s (rds s d n)
  | 0, _ => hd
  | n + 1, hn => rx_su g (by omega) (rds_su g hd n (by omega))
theorem D0_su {s : Nat → Nat} : Su s D0 := by
  intro v v0 h
  unfold D0 at h
  rw [if_neg v0] at h
  omega
theorem Dr_su {s : Nat → Nat} (g : Gph s) : ∀ r, Su s (Dr s r)
  | 0 => D0_su
  | r + 1 => rds_su g (Dr_su g r) _ (Nat.le_refl _)
theorem Dr_le {s : Nat → Nat} {p : Nat} : ∀ r, Dr s r p ≤ 1000
  | 0 => by
    show D0 p ≤ 1000
    unfold D0
    split <;> omega
  | r + 1 => Nat.le_trans (rds_le _) (Dr_le r)
/-- a round makes good what its beginning was exact about -/
theorem rds_good {s e d : Nat → Nat} (f : Fl s e) (hd : ∀ p, e p ≤ d p) {u v l : Nat} (hu : d u = e u) : ∀ n, n ≤ s 1 → (∃ k, k < n ∧ s (30 + 6 * k + 4) ≠ 1 ∧ l = s (30 + 6 * k + 2) ∧ (u = s (30 + 6 * k + 0) ∧ v = s (30 + 6 * k + 1) ∨ u = s (30 + 6 * k + 1) ∧ v = s (30 + 6 * k + 0))) → rds s d n v ≤ e u + l
  | 0, _, ⟨k, hk, _⟩ => absurd hk (Nat.not_lt_zero _)
  | n + 1, hn, ⟨k, hk, hc, hl, hh⟩ => by
    by_cases c : k = n
    · subst c
      show rx s k (rds s d k) v ≤ e u + l
      have g1 := rds_ge f hd k (by omega) u
      have g2 := rds_le (s := s) (d := d) (p := u) k
      generalize rds s d k = q at *
      have hq : q u = e u := by omega
      unfold rx
      rw [if_neg hc]
      rcases hh with ⟨h1, h2⟩ | ⟨h1, h2⟩
      · subst h1 h2 hl
        have h3 := @up1_le q (s (30 + 6 * k + 0)) (s (30 + 6 * k + 1)) (s (30 + 6 * k + 2)) (s (30 + 6 * k + 0))
        generalize up1 q (s (30 + 6 * k + 0)) (s (30 + 6 * k + 1)) (s (30 + 6 * k + 2)) = q2 at *
        unfold up1
        rw [upN_s]
        split <;> omega
      · subst h1 h2 hl
        refine Nat.le_trans up1_le ?_
        unfold up1
        rw [upN_s]
        split <;> omega
    · exact Nat.le_trans rx_le (rds_good f hd hu n (by omega) ⟨k, by omega, hc, hl, hh⟩)
