def sOk (s : Nat → Nat) : Prop := 1 ≤ s 13 ∧ s 13 ≤ 5 ∧ s 14 ≤ 90 ∧ 1 ≤ s 15 ∧ s 15 ≤ 999 ∧ s 16 ≤ 9 ∧ 1 ≤ s 17 ∧ s 17 ≤ 99 ∧ 100 ≤ s 18 ∧ s 18 ≤ 9999 ∧ 1 ≤ s 19 ∧ s 19 ≤ 99
def fOk (s : Nat → Nat) : Prop := 0 < s 7 ∧ s 7 < 10 ∧ (s 7 < s 0 ∨ s 7 = 1 ∧ s 0 < 2)
def bOk (s : Nat → Nat) : Prop := (s 9 ≠ 0 → s 7 < s 0 ∧ 1 ≤ s 10 ∧ s 10 ≤ 9 ∧ s 9 ≤ 180 ∧ s 12 < 2 ^ 16 ∧ s 20 = 0 ∧ ∀ i, i ≤ s 10 → s (20 + i) < s 0) ∧ s 10 ≤ 9
/-- what is kept of every state -/
def Inv (s : Nat → Nat) : Prop := Gph s ∧ sOk s ∧ fOk s ∧ s 8 < 2147483647 ∧ bOk s
/-- what no lap changes -/
def Kp (s s' : Nat → Nat) : Prop := Eqg s s' ∧ s' 2 = s 2 ∧ s' 7 = s 7 ∧ ∀ j, 13 ≤ j → j < 20 → s' j = s j
theorem Kp_r {s : Nat → Nat} : Kp s s := ⟨⟨rfl, rfl, fun _ _ _ _ => rfl⟩, rfl, rfl, fun _ _ _ => rfl⟩
theorem Kp_t {s t u : Nat → Nat} (h : Kp s t) (k : Kp t u) : Kp s u := by
  obtain ⟨⟨a1, a2, a3⟩, a4, a5, a6⟩ := h
  obtain ⟨⟨b1, b2, b3⟩, b4, b5, b6⟩ := k
  exact ⟨⟨b1.trans a1, b2.trans a2, fun k w h1 h2 => (b3 k w h1 h2).trans (a3 k w h1 h2)⟩, b4.trans a4, b5.trans a5, fun j h1 h2 => (b6 j h1 h2).trans (a6 j h1 h2)⟩
theorem Inv_kp {s t : Nat → Nat} (i : Inv s) (k : Kp s t) (h8 : t 8 < 2147483647) (hb : bOk t) : Inv t := by
  obtain ⟨k1, k2, k3, k4⟩ := k
  obtain ⟨i1, i2, i3, i4, i5⟩ := i
  refine ⟨eqg_Gph k1 i1, ?_, ?_, h8, hb⟩
  · unfold sOk at i2 ⊢
    rw [k4 13 (by omega) (by omega), k4 14 (by omega) (by omega), k4 15 (by omega) (by omega), k4 16 (by omega) (by omega), k4 17 (by omega) (by omega), k4 18 (by omega) (by omega), k4 19 (by omega) (by omega)]
    exact i2
  · unfold fOk at i3 ⊢
    rw [k3, k1.1]
    exact i3
theorem mk_b {s : Nat → Nat} {x a b j : Nat} (h : j < 30) (h8 : j ≠ 8) : mkS s x a b j = s j := mk_lo h h8
theorem fin_n {s : Nat → Nat} {h y j : Nat} (h1 : j ≠ 127 + 2 * h) (h2 : j < 3 ∨ 6 < j) (hy : y ≤ 2) : fin s h y j = s j := by
  unfold fin
  rw [if_neg h1, if_neg (by omega), if_neg (by omega)]
theorem wlk_ok {s : Nat → Nat} (i : Inv s) (h2 : 2 ≤ s 0) : (wlk s).1 < 2147483647 ∧ IW s (wlk s).2.1 ∧ (wlk s).2.2 ≤ 2 ∧ ((wlk s).2.2 = 0 → hr (wlk s).2.1 = s 7) := walk_ok i.1 10 (s 8) W0 rfl (IW_0 (by omega)) i.2.2.2.1
theorem antS_kp {s : Nat → Nat} (i : Inv s) (h2 : 2 ≤ s 0) : Kp s (antS s) ∧ antS s 8 < 2147483647 ∧ ∀ j, 9 ≤ j → j < 30 → antS s j = s j := by
  obtain ⟨w1, w2, w3, w4⟩ := wlk_ok i h2
  unfold antS
  have key : ∀ j, j < 30 → j ≠ 8 → (j < 3 ∨ 6 < j) → fin (mkS s (wlk s).1 (wlk s).2.1.2.2.1 (wlk s).2.1.2.2.2.1) (hr (wlk s).2.1) (wlk s).2.2 j = s j := fun j h1 h2 h3 => by
    rw [fin_n (by omega) h3 w3, mk_lo h1 h2]
  refine ⟨⟨⟨key 0 (by omega) (by omega) (by omega), key 1 (by omega) (by omega) (by omega), fun k w hw hk => ?_⟩, key 2 (by omega) (by omega) (by omega), key 7 (by omega) (by omega) (by omega), fun j h1 h2 => key j (by omega) (by omega) (by omega)⟩, ?_, fun j h1 h2 => key j h2 (by omega) (by omega)⟩
  · rw [fin_n (by omega) (by omega) w3, eqg_mk.2.2 k w hw hk]
  · rw [fin_n (by omega) (by omega) w3, mk_8]; exact w1
def bst (s : Nat → Nat) (W : (Nat × Nat × Nat × Nat × (Nat → Nat))) : Nat → Nat := if s 9 = 0 ∨ W.1 < s 9 then isb s W (W.2.1 + 1) else s
def stp (s : Nat → Nat) : Nat → Nat := if (wlk s).2.2 = 0 then bst (antS s) (wlk s).2.1 else antS s
theorem isb_n {s : Nat → Nat} {W : (Nat × Nat × Nat × Nat × (Nat → Nat))} {n j : Nat} (hn : n ≤ 10) (h : j < 9 ∨ 13 ≤ j ∧ j < 20 ∨ 30 ≤ j) : isb s W n j = s j := by
  unfold isb
  rw [if_neg (by omega), if_neg (by omega), if_neg (by omega), if_neg (by omega), if_neg (by omega)]
theorem stp_ok {s : Nat → Nat} (i : Inv s) (h2 : 2 ≤ s 0) : Inv (stp s) ∧ Kp s (stp s) := by
  obtain ⟨w1, w2, w3, w4⟩ := wlk_ok i h2
  obtain ⟨a1, a2, a3⟩ := antS_kp i h2
  have hb : bOk (antS s) := by
    have h := i.2.2.2.2
    unfold bOk at h ⊢
    rw [a3 9 (by omega) (by omega), a3 10 (by omega) (by omega), a3 12 (by omega) (by omega), a3 20 (by omega) (by omega), a1.1.1, a1.2.2.1]
    refine ⟨fun h9 => ?_, h.2⟩
    obtain ⟨q1, q2, q3, q4, q5, q6, q7⟩ := h.1 h9
    exact ⟨q1, q2, q3, q4, q5, q6, fun i hi => by rw [a3 (20 + i) (by omega) (by omega)]; exact q7 i hi⟩
  have ia := Inv_kp i a1 a2 hb
  unfold stp
  by_cases c : (wlk s).2.2 = 0
  · rw [if_pos c]
    unfold bst
    by_cases c2 : antS s 9 = 0 ∨ (wlk s).2.1.1 < antS s 9
    · rw [if_pos c2]
      have hn : (wlk s).2.1.2.1 + 1 ≤ 10 := by have := w2.1; omega
      have kb : Kp (antS s) (isb (antS s) (wlk s).2.1 ((wlk s).2.1.2.1 + 1)) := ⟨⟨isb_n hn (by omega), isb_n hn (by omega), fun k w _ _ => isb_n hn (by omega)⟩, isb_n hn (by omega), isb_n hn (by omega), fun j h1 h2 => isb_n hn (by omega)⟩
      have kk := Kp_t a1 kb
      refine ⟨Inv_kp i kk (by rw [isb_n hn (by omega)]; exact a2) ?_, kk⟩
      have f := i.2.2.1
      have f3 := f.2.2
      have hw := w4 c
      refine ⟨fun _ => ?_, by show (wlk s).2.1.2.1 ≤ 9; exact w2.1⟩
      rw [kk.2.2.1, kk.1.1]
      obtain ⟨j1, j2, j3, j4, j5, j6, j7, j8, j9, j10⟩ := w2
      have m0 : (wlk s).2.1.2.1 ≠ 0 := fun e => by
        unfold hr at hw
        rw [e, j2] at hw
        have := f.1
        omega
      refine ⟨by omega, ?_, ?_, ?_, ?_, ?_, fun i hi => ?_⟩
      · show 1 ≤ (wlk s).2.1.2.1; omega
      · show (wlk s).2.1.2.1 ≤ 9; omega
      · show (wlk s).2.1.1 ≤ 180; omega
      · exact j4
      · show isb (antS s) (wlk s).2.1 ((wlk s).2.1.2.1 + 1) (20 + 0) = 0
        unfold isb
        rw [if_neg (by omega), if_neg (by omega), if_neg (by omega), if_neg (by omega), if_pos (by omega)]
        exact j2
      · have hi' : i ≤ (wlk s).2.1.2.1 := hi
        unfold isb
        rw [if_neg (by omega), if_neg (by omega), if_neg (by omega), if_neg (by omega), if_pos (by omega), show 20 + i - 20 = i by omega]
        exact j3 i hi'
    · rw [if_neg c2]
      exact ⟨ia, a1⟩
  · rw [if_neg c]
    exact ⟨ia, a1⟩
/-- the state behind so many ants, and what they lay -/
def lapA (s : Nat → Nat) : Nat → (Nat → Nat)
  | 0 => s
  | n + 1 => stp (lapA s n)
def lapL (s : Nat → Nat) (k : Nat) : Nat → Nat
  | 0 => 0
  | n + 1 => lapL s k n + (if (wlk (lapA s n)).2.2 = 0 ∧ bit (wlk (lapA s n)).2.1.2.2.1 k = 1 then s 15 / (wlk (lapA s n)).2.1.1 else 0)
theorem lapA_ok {s : Nat → Nat} (i : Inv s) (h2 : 2 ≤ s 0) : ∀ n, Inv (lapA s n) ∧ Kp s (lapA s n)
  | 0 => ⟨i, Kp_r⟩
  | n + 1 => by
    obtain ⟨a, b⟩ := lapA_ok i h2 n
    obtain ⟨c, d⟩ := stp_ok a (by rw [b.1.1]; exact h2)
    exact ⟨c, Kp_t b d⟩
theorem lapL_le {s : Nat → Nat} {k : Nat} (h : s 15 ≤ 999) : ∀ n, lapL s k n ≤ n * 999
  | 0 => Nat.le_refl _
  | n + 1 => by
    have ih := lapL_le (k := k) h n
    have h1 := Nat.div_le_self (s 15) (wlk (lapA s n)).2.1.1
    have h3 : (if (wlk (lapA s n)).2.2 = 0 ∧ bit (wlk (lapA s n)).2.1.2.2.1 k = 1 then s 15 / (wlk (lapA s n)).2.1.1 else 0) ≤ 999 := by
      by_cases c : (wlk (lapA s n)).2.2 = 0 ∧ bit (wlk (lapA s n)).2.1.2.2.1 k = 1
      · rw [if_pos c]; exact Nat.le_trans h1 h
      · rw [if_neg c]; exact Nat.zero_le _
    rw [Nat.succ_mul]
    exact Nat.add_le_add ih h3
def onb (s : Nat → Nat) (k : Nat) : Nat := if s 9 = 0 then 0 else if bit (s 12) k = 1 then s 16 * (s 15 / s 9) else 0
def clp (s : Nat → Nat) (t : Nat) : Nat := if t < s 17 then s 17 else if s 18 < t then s 18 else t
def evp (s : Nat → Nat) (k : Nat) : Nat := s (30 + 6 * k + 3) - s (30 + 6 * k + 3) * s 14 / 100
/-- the end of a lap -/
def endS (s : Nat → Nat) (L : Nat → Nat) : Nat → Nat := upN (mapT s (s 1) (fun k => clp s (evp s k + L k + onb s k))) 2 (s 2 + 1)
def lapS (s : Nat → Nat) : Nat → Nat := endS (lapA s (s 13)) (fun k => lapL s k (s 13))
theorem endS_ok {s : Nat → Nat} {L : Nat → Nat} (i : Inv s) : Inv (endS s L) ∧ endS s L 0 = s 0 ∧ endS s L 7 = s 7 ∧ endS s L 4 = s 4 ∧ ∀ j, 13 ≤ j → j < 20 → endS s L j = s j := by
  have lo : ∀ j, j < 30 → j ≠ 2 → endS s L j = s j := fun j h1 h2 => by
    unfold endS
    rw [upN_n h2, mapT_lo h1]
  have wo : ∀ k w, w ≠ 3 → w < 6 → endS s L (30 + 6 * k + w) = s (30 + 6 * k + w) := fun k w h1 h2 => by
    unfold endS
    rw [upN_n (by omega), mapT_w h1 h2]
  have tr : ∀ k, k < s 1 → endS s L (30 + 6 * k + 3) = clp s (evp s k + L k + onb s k) := fun k hk => by
    unfold endS
    rw [upN_n (by omega), mapT_3 hk]
  obtain ⟨⟨g0, g1, g2⟩, i2, i3, i4, i5⟩ := i
  refine ⟨⟨⟨?_, ?_, fun k hk => ?_⟩, ?_, ?_, ?_, ?_⟩, lo 0 (by omega) (by omega), lo 7 (by omega) (by omega), lo 4 (by omega) (by omega), fun j h1 h2 => lo j (by omega) (by omega)⟩
  · rw [lo 0 (by omega) (by omega)]; exact g0
  · rw [lo 1 (by omega) (by omega)]; exact g1
  · rw [lo 1 (by omega) (by omega)] at hk
    have h := g2 k hk
    unfold pOk at h ⊢
    rw [wo k 0 (by omega) (by omega), wo k 1 (by omega) (by omega), wo k 2 (by omega) (by omega), wo k 4 (by omega) (by omega), lo 0 (by omega) (by omega), tr k hk]
    unfold sOk at i2
    have hc : 1 ≤ clp s (evp s k + L k + onb s k) ∧ clp s (evp s k + L k + onb s k) ≤ 9999 := by
      unfold clp
      split
      · omega
      · split <;> omega
    exact ⟨h.1, h.2.1, h.2.2.1, h.2.2.2.1, h.2.2.2.2.1, hc.1, hc.2, h.2.2.2.2.2.2.2⟩
  · unfold sOk at i2 ⊢
    rw [lo 13 (by omega) (by omega), lo 14 (by omega) (by omega), lo 15 (by omega) (by omega), lo 16 (by omega) (by omega), lo 17 (by omega) (by omega), lo 18 (by omega) (by omega), lo 19 (by omega) (by omega)]
    exact i2
  · unfold fOk at i3 ⊢
    rw [lo 7 (by omega) (by omega), lo 0 (by omega) (by omega)]
    exact i3
  · rw [lo 8 (by omega) (by omega)]; exact i4
  · unfold bOk at i5 ⊢
    rw [lo 7 (by omega) (by omega), lo 0 (by omega) (by omega), lo 9 (by omega) (by omega), lo 10 (by omega) (by omega), lo 12 (by omega) (by omega), lo 20 (by omega) (by omega)]
    refine ⟨fun h9 => ?_, i5.2⟩
    obtain ⟨q1, q2, q3, q4, q5, q6, q7⟩ := i5.1 h9
    exact ⟨q1, q2, q3, q4, q5, q6, fun i hi => by rw [lo (20 + i) (by omega) (by omega)]; exact q7 i hi⟩
