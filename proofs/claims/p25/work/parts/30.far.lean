/-! how far the places are: a round over the paths, and when the rounds change no more -/
def up1 (d : Nat → Nat) (v u l : Nat) : Nat → Nat := upN d v (if d u + l < d v then d u + l else d v)
def rx (s : Nat → Nat) (k : Nat) (d : Nat → Nat) : Nat → Nat := if s (30 + 6 * k + 4) = 1 then d else up1 (up1 d (s (30 + 6 * k + 0)) (s (30 + 6 * k + 1)) (s (30 + 6 * k + 2))) (s (30 + 6 * k + 1)) (s (30 + 6 * k + 0)) (s (30 + 6 * k + 2))
def rds (s : Nat → Nat) (d : Nat → Nat) : Nat → (Nat → Nat)
  | 0 => d
  | n + 1 => rx s n (rds s d n)
def D0 : Nat → Nat := fun p => if p = 0 then 0 else 1000
def Dr (s : Nat → Nat) : Nat → (Nat → Nat)
  | 0 => D0
  | r + 1 => rds s (Dr s r) (s 1)
def Ed (s : Nat → Nat) (u v l : Nat) : Prop := ∃ k, k < s 1 ∧ s (30 + 6 * k + 4) ≠ 1 ∧ l = s (30 + 6 * k + 2) ∧ (u = s (30 + 6 * k + 0) ∧ v = s (30 + 6 * k + 1) ∨ u = s (30 + 6 * k + 1) ∧ v = s (30 + 6 * k + 0))
theorem up1_le {d : Nat → Nat} {v u l p : Nat} : up1 d v u l p ≤ d p := by
  unfold up1 upN
  split
  · rename_i e
    subst e
    split <;> omega
  · exact Nat.le_refl _
theorem rx_le {s d : Nat → Nat} {k p : Nat} : rx s k d p ≤ d p := by
  unfold rx
  split
  · exact Nat.le_refl _
  · exact Nat.le_trans up1_le up1_le
theorem rds_le {s d : Nat → Nat} {p : Nat} : ∀ n, rds s d n p ≤ d p
  | 0 => Nat.le_refl _
  | n + 1 => Nat.le_trans rx_le (rds_le n)
/-- a fixed floor -/
def Fl (s e : Nat → Nat) : Prop := ∀ u v l, Ed s u v l → e v ≤ e u + l
theorem up1_ge {e d : Nat → Nat} {v u l p : Nat} (h : e v ≤ e u + l) (hd : ∀ p, e p ≤ d p) : e p ≤ up1 d v u l p := by
  unfold up1 upN
  have h1 := hd v
  have h2 := hd u
  have h3 := hd p
  split
  · rename_i e
    subst e
    split <;> omega
  · exact h3
theorem ed1 {s : Nat → Nat} {k : Nat} (hk : k < s 1) (hc : s (30 + 6 * k + 4) ≠ 1) : Ed s (s (30 + 6 * k + 1)) (s (30 + 6 * k + 0)) (s (30 + 6 * k + 2)) ∧ Ed s (s (30 + 6 * k + 0)) (s (30 + 6 * k + 1)) (s (30 + 6 * k + 2)) := ⟨⟨k, hk, hc, rfl, Or.inr ⟨rfl, rfl⟩⟩, ⟨k, hk, hc, rfl, Or.inl ⟨rfl, rfl⟩⟩⟩
theorem rx_ge {s e d : Nat → Nat} {k p : Nat} (f : Fl s e) (hk : k < s 1) (hd : ∀ p, e p ≤ d p) : e p ≤ rx s k d p := by
  unfold rx
  split
  · exact hd p
  · rename_i hc
    obtain ⟨a, b⟩ := ed1 hk hc
    exact up1_ge (f _ _ _ b) (fun p => up1_ge (f _ _ _ a) hd)
theorem rds_ge {s e d : Nat → Nat} (f : Fl s e) (hd : ∀ p, e p ≤ d p) : ∀ n, n ≤ s 1 → ∀ p, e p ≤ rds s d n p
  | 0, _, p => hd p
  | n + 1, hn, p => rx_ge f (by omega) (rds_ge f hd n (by omega))
/-- what is reached has been reached from somewhere -/
def Su (s d : Nat → Nat) : Prop := ∀ v, v ≠ 0 → d v < 1000 → ∃ u l, Ed s u v l ∧ d u + l ≤ d v
theorem up1_su {s d : Nat → Nat} {v u l : Nat} (h : Ed s u v l) (n : u ≠ v) (hd : Su s d) : Su s (up1 d v u l) := by
  intro w w0 hw
  by_cases c : w = v
  · subst c
    have hu : up1 d w u l u = d u := upN_n n
    have hv : up1 d w u l w = if d u + l < d w then d u + l else d w := upN_s
    by_cases c2 : d u + l < d w
    · rw [if_pos c2] at hv
      exact ⟨u, l, h, by rw [hu, hv]; exact Nat.le_refl _⟩
    · rw [if_neg c2] at hv
      rw [hv] at hw
      obtain ⟨u2, l2, e2, h2⟩ := hd w w0 hw
      exact ⟨u2, l2, e2, by rw [hv]; exact Nat.le_trans (Nat.add_le_add_right up1_le _) h2⟩
  · have hw2 : up1 d v u l w = d w := upN_n c
    rw [hw2] at hw ⊢
    obtain ⟨u2, l2, e2, h2⟩ := hd w w0 hw
    exact ⟨u2, l2, e2, Nat.le_trans (Nat.add_le_add_right up1_le _) h2⟩
theorem rx_su {s d : Nat → Nat} {k : Nat} (g : Gph s) (hk : k < s 1) (hd : Su s d) : Su s (rx s k d) := by
  unfold rx
  split
  · exact hd
  · rename_i hc
    obtain ⟨a, b⟩ := ed1 hk hc
    have p := (g.2.2 k hk).2.2.1
    exact up1_su b p (up1_su a (Ne.symm p) hd)
theorem rds_su {s d : Nat → Nat} (g : Gph s) (hd : Su s d) : ∀ n, n ≤ s 1 → Su s (rds s d n)
  | 0, _ => hd
  | n + 1, hn => rx_su g (by omega) (rds_su g hd n (by omega))
theorem D0_su {s : Nat → Nat} : Su s D0 := by
  intro v v0 h
  unfold D0 at h
  rw [if_neg v0] at h
  omega
theorem Dr_su {s : Nat → Nat} (g : Gph s) : ∀ r, Su s (Dr s r)
  | 0 => D0_su
  | r + 1 => rds_su g (Dr_su g r) _ (Nat.le_refl _)
theorem Dr_le {s : Nat → Nat} {p : Nat} : ∀ r, Dr s r p ≤ 1000
  | 0 => by
    show D0 p ≤ 1000
    unfold D0
    split <;> omega
  | r + 1 => Nat.le_trans (rds_le _) (Dr_le r)
/-- a round makes good what its beginning was exact about -/
theorem rds_good {s e d : Nat → Nat} (f : Fl s e) (hd : ∀ p, e p ≤ d p) {u v l : Nat} (hu : d u = e u) : ∀ n, n ≤ s 1 → (∃ k, k < n ∧ s (30 + 6 * k + 4) ≠ 1 ∧ l = s (30 + 6 * k + 2) ∧ (u = s (30 + 6 * k + 0) ∧ v = s (30 + 6 * k + 1) ∨ u = s (30 + 6 * k + 1) ∧ v = s (30 + 6 * k + 0))) → rds s d n v ≤ e u + l
  | 0, _, ⟨k, hk, _⟩ => absurd hk (Nat.not_lt_zero _)
  | n + 1, hn, ⟨k, hk, hc, hl, hh⟩ => by
    by_cases c : k = n
    · subst c
      show rx s k (rds s d k) v ≤ e u + l
      have g1 := rds_ge f hd k (by omega) u
      have g2 := rds_le (s := s) (d := d) (p := u) k
      generalize rds s d k = q at *
      have hq : q u = e u := by omega
      unfold rx
      rw [if_neg hc]
      rcases hh with ⟨h1, h2⟩ | ⟨h1, h2⟩
      · subst h1 h2 hl
        have h3 := @up1_le q (s (30 + 6 * k + 0)) (s (30 + 6 * k + 1)) (s (30 + 6 * k + 2)) (s (30 + 6 * k + 0))
        generalize up1 q (s (30 + 6 * k + 0)) (s (30 + 6 * k + 1)) (s (30 + 6 * k + 2)) = q2 at *
        unfold up1
        rw [upN_s]
        split <;> omega
      · subst h1 h2 hl
        refine Nat.le_trans up1_le ?_
        unfold up1
        rw [upN_s]
        split <;> omega
    · exact Nat.le_trans rx_le (rds_good f hd hu n (by omega) ⟨k, by omega, hc, hl, hh⟩)
theorem sumTo_le2 {f g : Nat → Nat} : ∀ {n : Nat}, (∀ k, k < n → f k ≤ g k) → sumTo f n ≤ sumTo g n
  | 0, _ => Nat.le_refl _
  | n + 1, h => by
    have ih := sumTo_le2 (f := f) (g := g) (n := n) (fun k hk => h k (by omega))
    have h2 := h n (by omega)
    simp only [sumTo]
    omega
theorem sumTo_eq {f g : Nat → Nat} : ∀ {n : Nat}, (∀ k, k < n → f k ≤ g k) → sumTo f n = sumTo g n → ∀ k, k < n → f k = g k
  | 0, _, _, k, hk => absurd hk (Nat.not_lt_zero _)
  | n + 1, h, e, k, hk => by
    have h1 := sumTo_le2 (f := f) (g := g) (n := n) (fun k hk => h k (by omega))
    have h2 := h n (by omega)
    simp only [sumTo] at e
    by_cases c : k = n
    · subst c; omega
    · exact sumTo_eq (n := n) (fun k hk => h k (by omega)) (by omega) k (by omega)
theorem sumTo_lt {f g : Nat → Nat} {n u : Nat} (h : ∀ k, k < n → f k ≤ g k) (hu : u < n) (h2 : f u < g u) : sumTo f n < sumTo g n := by
  have h1 := sumTo_le2 h
  by_cases c : sumTo f n = sumTo g n
  · have := sumTo_eq h c u hu; omega
  · omega
theorem rx_hi {s d : Nat → Nat} {k p : Nat} (h0 : p ≠ s (30 + 6 * k + 0)) (h1 : p ≠ s (30 + 6 * k + 1)) : rx s k d p = d p := by
  unfold rx
  split
  · rfl
  · unfold up1
    rw [upN_n h1, upN_n h0]
theorem rds_hi {s d : Nat → Nat} {p : Nat} (g : Gph s) (hp : s 0 ≤ p) : ∀ n, n ≤ s 1 → rds s d n p = d p
  | 0, _ => rfl
  | n + 1, hn => by
    have h := g.2.2 n (by omega)
    show rx s n (rds s d n) p = d p
    rw [rx_hi (by have := h.1; omega) (by have := h.2.1; omega), rds_hi g hp n (by omega)]
theorem Dr_hi {s : Nat → Nat} {p : Nat} (g : Gph s) (hp : s 0 ≤ p) : ∀ r, Dr s r p = D0 p
  | 0 => rfl
  | r + 1 => (rds_hi g hp _ (Nat.le_refl _)).trans (Dr_hi g hp r)
theorem Dr_stop {s : Nat → Nat} (g : Gph s) : ∃ N, ∀ p, Dr s (N + 1) p = Dr s N p := by
  have key : ∀ m, (∃ N, ∀ p, Dr s (N + 1) p = Dr s N p) ∨ sumTo (Dr s m) 10 + m ≤ 10000 := by
    intro m
    induction m with
    | zero => right; have := sumTo_le (f := Dr s 0) (c := 1000) (n := 10) (fun k _ => Dr_le 0); omega
    | succ m ih =>
      rcases ih with ih | ih
      · left; exact ih
      · by_cases c : sumTo (Dr s (m + 1)) 10 = sumTo (Dr s m) 10
        · left
          refine ⟨m, fun p => ?_⟩
          by_cases hp : p < 10
          · exact sumTo_eq (fun k _ => rds_le _) c p hp
          · rw [Dr_hi g (by have := g.1; omega), Dr_hi g (by have := g.1; omega)]
        · right
          have := sumTo_le2 (f := Dr s (m + 1)) (g := Dr s m) (n := 10) (fun k _ => rds_le _)
          omega
  rcases key 10001 with h | h
  · exact h
  · omega
theorem rds_mono {s d : Nat → Nat} {p n : Nat} : ∀ m, n ≤ m → rds s d m p ≤ rds s d n p
  | 0, h => by rw [Nat.le_zero.1 h]; exact Nat.le_refl _
  | m + 1, h => by
    by_cases c : n = m + 1
    · rw [c]; exact Nat.le_refl _
    · exact Nat.le_trans rx_le (rds_mono m (by omega))
theorem Fl_of {s d : Nat → Nat} (h : ∀ p, rds s d (s 1) p = d p) : Fl s d := by
  rintro u v l ⟨k, hk, hc, hl, hh⟩
  have e1 : ∀ n, n ≤ s 1 → rds s d n = d := fun n hn => funext fun p => by
    have a := rds_le (s := s) (d := d) (p := p) n
    have b := rds_mono (s := s) (d := d) (p := p) (n := n) (s 1) hn
    have := h p
    omega
  have e2 : rx s k d = d := by
    have := e1 (k + 1) hk
    rw [show rds s d (k + 1) = rx s k (rds s d k) from rfl, e1 k (by omega)] at this
    exact this
  unfold rx at e2
  rw [if_neg hc] at e2
  have e3 : up1 d (s (30 + 6 * k + 0)) (s (30 + 6 * k + 1)) (s (30 + 6 * k + 2)) = d := funext fun p => by
    have a := @up1_le d (s (30 + 6 * k + 0)) (s (30 + 6 * k + 1)) (s (30 + 6 * k + 2)) p
    have b := @up1_le (up1 d (s (30 + 6 * k + 0)) (s (30 + 6 * k + 1)) (s (30 + 6 * k + 2))) (s (30 + 6 * k + 1)) (s (30 + 6 * k + 0)) (s (30 + 6 * k + 2)) p
    rw [e2] at b
    omega
  rw [e3] at e2
  have f1 := congrFun e3 (s (30 + 6 * k + 0))
  have f2 := congrFun e2 (s (30 + 6 * k + 1))
  unfold up1 at f1 f2
  rw [upN_s] at f1 f2
  rcases hh with ⟨h1, h2⟩ | ⟨h1, h2⟩
  · subst h1 h2 hl
    split at f2 <;> omega
  · subst h1 h2 hl
    split at f1 <;> omega
def rk (s e : Nat → Nat) (v : Nat) : Nat := sumTo (fun p => if e p < e v then 1 else 0) (s 0)
theorem ed_lt {s : Nat → Nat} (g : Gph s) {u v l : Nat} (h : Ed s u v l) : u < s 0 ∧ v < s 0 ∧ 1 ≤ l := by
  obtain ⟨k, hk, hc, hl, hh⟩ := h
  have p := g.2.2 k hk
  unfold pOk at p
  rcases hh with ⟨h1, h2⟩ | ⟨h1, h2⟩ <;> subst h1 h2 hl <;> exact ⟨by omega, by omega, by omega⟩
theorem Dr_0 {s : Nat → Nat} : ∀ r, Dr s r 0 = 0
  | 0 => rfl
  | r + 1 => by
    have h := rds_le (s := s) (d := Dr s r) (p := 0) (s 1)
    have h2 := Dr_0 (s := s) r
    show rds s (Dr s r) (s 1) 0 = 0
    omega
theorem Dr_exact {s e : Nat → Nat} (g : Gph s) (f : Fl s e) (su : Su s e) (he : ∀ r p, e p ≤ Dr s r p) (h0 : e 0 = 0) : ∀ r v, v < s 0 → e v < 1000 → rk s e v ≤ r → Dr s r v = e v := by
  have low : ∀ v, v ≠ 0 → v < s 0 → e v < 1000 → ∃ u l, Ed s u v l ∧ e u + l = e v ∧ rk s e u < rk s e v := by
    intro v v0 hv hf
    obtain ⟨u, l, ed, h⟩ := su v v0 hf
    have h2 := f u v l ed
    obtain ⟨l1, l2, l3⟩ := ed_lt g ed
    refine ⟨u, l, ed, by omega, sumTo_lt (u := u) (fun k _ => ?_) l1 ?_⟩
    · show (if e k < e u then 1 else 0) ≤ (if e k < e v then 1 else 0)
      by_cases c : e k < e u
      · rw [if_pos c, if_pos (by omega)]; exact Nat.le_refl _
      · rw [if_neg c]; exact Nat.zero_le _
    · show (if e u < e u then 1 else 0) < (if e u < e v then 1 else 0)
      rw [if_neg (by omega), if_pos (by omega)]
      decide
  intro r
  induction r with
  | zero =>
    intro v hv hf hr
    by_cases v0 : v = 0
    · rw [v0, h0]; rfl
    · obtain ⟨u, l, _, _, h⟩ := low v v0 hv hf
      omega
  | succ r ih =>
    intro v hv hf hr
    by_cases v0 : v = 0
    · rw [v0, h0]; exact Dr_0 _
    · obtain ⟨u, l, ed, h, h2⟩ := low v v0 hv hf
      obtain ⟨l1, l2, l3⟩ := ed_lt g ed
      have iu := ih u l1 (by omega) (by omega)
      have a := rds_good f (he r) iu (s 1) (Nat.le_refl _) ed
      have b := he (r + 1) v
      show rds s (Dr s r) (s 1) v = e v
      have b' : e v ≤ rds s (Dr s r) (s 1) v := b
      omega
theorem Dr_end {s : Nat → Nat} (g : Gph s) (h0 : 1 ≤ s 0) : Dr s (s 0) = Dr s (s 0 - 1) := by
  obtain ⟨N, hN⟩ := Dr_stop g
  have f : Fl s (Dr s N) := Fl_of hN
  have hle : ∀ r p, Dr s (r + 1) p ≤ Dr s r p := fun r p => rds_le _
  have e0 : ∀ r p, Dr s r p ≤ D0 p := by
    intro r p
    induction r with
    | zero => exact Nat.le_refl _
    | succ r ih => exact Nat.le_trans (hle r p) ih
  have he : ∀ r p, Dr s N p ≤ Dr s r p := by
    intro r
    induction r with
    | zero => exact e0 N
    | succ r ih => exact fun p => rds_ge f ih _ (Nat.le_refl _) p
  have ex := Dr_exact g f (Dr_su g N) he (Dr_0 N)
  have hr : ∀ v, v < s 0 → rk s (Dr s N) v ≤ s 0 - 1 := fun v hv => by
    have h1 := sumTo_bump (f := fun p => if p = v then 1 else if Dr s N p < Dr s N v then 1 else 0) (g := fun p => if Dr s N p < Dr s N v then 1 else 0) (t := v) (n := s 0) hv (fun j hj => if_neg hj) (by simp)
    have h2 := sumTo_le (f := fun p => if p = v then 1 else if Dr s N p < Dr s N v then 1 else 0) (c := 1) (n := s 0) (fun k _ => by
      show (if k = v then 1 else if Dr s N k < Dr s N v then 1 else 0) ≤ 1
      split
      · exact Nat.le_refl _
      · split <;> omega)
    unfold rk
    omega
  have key : ∀ v, Dr s (s 0 - 1) v = Dr s N v := fun v => by
    by_cases hv : v < s 0
    · by_cases hf : Dr s N v < 1000
      · exact ex (s 0 - 1) v hv hf (hr v hv)
      · have a := he (s 0 - 1) v
        have b := Dr_le (s := s) (p := v) (s 0 - 1)
        have c := Dr_le (s := s) (p := v) N
        omega
    · rw [Dr_hi g (by omega), Dr_hi g (by omega)]
  funext v
  have a := he (s 0) v
  have b : Dr s (s 0) v ≤ Dr s (s 0 - 1) v := by
    have := hle (s 0 - 1) v
    rw [show s 0 - 1 + 1 = s 0 by omega] at this
    exact this
  have c := key v
  omega
