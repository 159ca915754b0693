/-! the orders: what each answers and leaves -/
def gPath (s : Nat → Nat) (a b l : Nat) : Nat → Nat := upN (upN (upN (upN (upN (upN (upN s (30 + 6 * s 1 + 0) a) (30 + 6 * s 1 + 1) b) (30 + 6 * s 1 + 2) l) (30 + 6 * s 1 + 3) (s 17)) (30 + 6 * s 1 + 4) 0) (30 + 6 * s 1 + 5) 0) 1 (s 1 + 1)
def oPath (s : Nat → Nat) (x y z r : Int32) (s' : Nat → Nat) : Prop := (∃ a b l, x = nI a ∧ y = nI b ∧ z = nI l ∧ a < s 0 ∧ b < s 0 ∧ a ≠ b ∧ 1 ≤ l ∧ l ≤ 20 ∧ (s 1 = 16 ∧ r = -1000000003 ∧ s' = s ∨ s 1 < 16 ∧ r = nI (s 1) ∧ s' = gPath s a b l)) ∨ ((¬ ∃ a, a < s 0 ∧ x = nI a) ∨ (∃ a, a < s 0 ∧ x = nI a) ∧ (¬ ∃ b, b < s 0 ∧ y = nI b) ∨ (∃ a, a < s 0 ∧ x = nI a) ∧ (∃ b, b < s 0 ∧ y = nI b) ∧ x = y ∨ (∃ a, a < s 0 ∧ x = nI a) ∧ (∃ b, b < s 0 ∧ y = nI b) ∧ x ≠ y ∧ ¬ ∃ l, 1 ≤ l ∧ l ≤ 20 ∧ z = nI l) ∧ r = -1000000001 ∧ s' = s
theorem oPath_ex {s : Nat → Nat} (i : Inv s) (x y z : Int32) : ∃ r s', oPath s x y z r s' := by
  have g1 := i.1.2.1
  by_cases h1 : ∃ a, a < s 0 ∧ x = nI a
  · by_cases h2 : ∃ b, b < s 0 ∧ y = nI b
    · by_cases h3 : x = y
      · exact ⟨_, _, Or.inr ⟨Or.inr (Or.inr (Or.inl ⟨h1, h2, h3⟩)), rfl, rfl⟩⟩
      · by_cases h4 : ∃ l, 1 ≤ l ∧ l ≤ 20 ∧ z = nI l
        · obtain ⟨a, ha, e1⟩ := h1
          obtain ⟨b, hb, e2⟩ := h2
          obtain ⟨l, hl1, hl2, e3⟩ := h4
          have hab : a ≠ b := fun e => h3 (by rw [e1, e2, e])
          by_cases h5 : s 1 = 16
          · exact ⟨_, _, Or.inl ⟨a, b, l, e1, e2, e3, ha, hb, hab, hl1, hl2, Or.inl ⟨h5, rfl, rfl⟩⟩⟩
          · exact ⟨_, _, Or.inl ⟨a, b, l, e1, e2, e3, ha, hb, hab, hl1, hl2, Or.inr ⟨by omega, rfl, rfl⟩⟩⟩
        · exact ⟨_, _, Or.inr ⟨Or.inr (Or.inr (Or.inr ⟨h1, h2, h3, h4⟩)), rfl, rfl⟩⟩
    · exact ⟨_, _, Or.inr ⟨Or.inr (Or.inl ⟨h1, h2⟩), rfl, rfl⟩⟩
  · exact ⟨_, _, Or.inr ⟨Or.inl h1, rfl, rfl⟩⟩
theorem inI_c {v : Int32} {a b n : Nat} (ha : a < 2 ^ 31) (hb : b < 2 ^ 31) (h1 : a ≤ n) (h2 : n ≤ b) (e : v = nI n) : inI v (nI a) (nI b) = nI 1 := by
  unfold inI
  subst e
  rw [if_neg (nI_nlt h1 (by omega)), if_neg (nI_nlt h2 hb)]
theorem inI_d {v : Int32} {a b : Nat} (ha : a < 2 ^ 31) (hb : b + 1 < 2 ^ 31) (h : ¬ ∃ n, a ≤ n ∧ n ≤ b ∧ v = nI n) : inI v (nI a) (nI b) = nI 0 := by
  unfold inI
  by_cases c : v < nI a
  · rw [if_pos c]
  · have h9 : nI b < v := by
      rcases pk_ix v hb with h1 | h1 | ⟨j, hj, e⟩
      · exfalso
        have h2 := Int32.lt_iff_toInt_lt.1 h1
        have h0 : (0 : Int32).toInt = 0 := by decide
        exact c (Int32.lt_iff_toInt_lt.2 (by rw [nI_toInt ha]; omega))
      · have h2 := Int32.le_iff_toInt_le.1 h1
        rw [nI_toInt hb] at h2
        exact Int32.lt_iff_toInt_lt.2 (by rw [nI_toInt (by omega)]; omega)
      · exfalso
        apply h
        refine ⟨j, ?_, by omega, e⟩
        by_cases c2 : a ≤ j
        · exact c2
        · exact absurd (by rw [e]; exact nI_lt (by omega) (by omega)) c
    rw [if_neg c, if_pos h9]
def gClose (s : Nat → Nat) (k c : Nat) : Nat → Nat := upN s (30 + 6 * k + 4) c
def oClose (s : Nat → Nat) (x : Int32) (c : Nat) (r : Int32) (s' : Nat → Nat) : Prop := (∃ k, x = nI k ∧ k < s 1 ∧ (s (30 + 6 * k + 4) = c ∧ r = -1000000002 ∧ s' = s ∨ s (30 + 6 * k + 4) ≠ c ∧ r = nI (sumTo (opn (gClose s k c)) (s 1)) ∧ s' = gClose s k c)) ∨ (¬ ∃ k, k < s 1 ∧ x = nI k) ∧ r = -1000000001 ∧ s' = s
theorem oClose_ex {s : Nat → Nat} (x : Int32) (c : Nat) : ∃ r s', oClose s x c r s' := by
  by_cases h1 : ∃ a, a < s 1 ∧ x = nI a
  · obtain ⟨k, hk, e⟩ := h1
    by_cases h2 : s (30 + 6 * k + 4) = c
    · exact ⟨_, _, Or.inl ⟨k, e, hk, Or.inl ⟨h2, rfl, rfl⟩⟩⟩
    · exact ⟨_, _, Or.inl ⟨k, e, hk, Or.inr ⟨h2, rfl, rfl⟩⟩⟩
  · exact ⟨_, _, Or.inr ⟨h1, rfl, rfl⟩⟩
theorem Inv_close {s : Nat → Nat} (i : Inv s) {k c : Nat} (hk : k < s 1) (hc : c ≤ 1) : Inv (gClose s k c) := by
  obtain ⟨⟨g0, g1, g2⟩, i2, i3, i4, i5⟩ := i
  have lo : ∀ j, j < 30 → gClose s k c j = s j := fun j h => upN_n (by omega)
  refine ⟨⟨by rw [lo 0 (by omega)]; exact g0, by rw [lo 1 (by omega)]; exact g1, fun q hq => ?_⟩, ?_, ?_, by rw [lo 8 (by omega)]; exact i4, ?_⟩
  · rw [lo 1 (by omega)] at hq
    have h := g2 q hq
    have w : ∀ w, w < 4 → gClose s k c (30 + 6 * q + w) = s (30 + 6 * q + w) := fun w hw => upN_n (by omega)
    unfold pOk at h ⊢
    rw [lo 0 (by omega), w 0 (by omega), w 1 (by omega), w 2 (by omega), w 3 (by omega)]
    refine ⟨h.1, h.2.1, h.2.2.1, h.2.2.2.1, h.2.2.2.2.1, h.2.2.2.2.2.1, h.2.2.2.2.2.2.1, ?_⟩
    unfold gClose upN
    split
    · exact hc
    · exact h.2.2.2.2.2.2.2
  · unfold sOk at i2 ⊢
    rw [lo 13 (by omega), lo 14 (by omega), lo 15 (by omega), lo 16 (by omega), lo 17 (by omega), lo 18 (by omega), lo 19 (by omega)]
    exact i2
  · unfold fOk at i3 ⊢
    rw [lo 7 (by omega), lo 0 (by omega)]
    exact i3
  · unfold bOk at i5 ⊢
    rw [lo 7 (by omega), lo 0 (by omega), lo 9 (by omega), lo 10 (by omega), lo 12 (by omega), lo 20 (by omega)]
    refine ⟨fun h9 => ?_, i5.2⟩
    obtain ⟨q1, q2, q3, q4, q5, q6, q7⟩ := i5.1 h9
    exact ⟨q1, q2, q3, q4, q5, q6, fun i hi => by rw [lo (20 + i) (by omega)]; exact q7 i hi⟩
theorem nI_lit {a b : Nat} (ha : a < 1000000) (hb : b < 1000000) : (nI a = nI b) = (a = b) := propext (nI_eq (by omega) (by omega))
theorem Inv_path {s : Nat → Nat} (i : Inv s) {a b l : Nat} (ha : a < s 0) (hb : b < s 0) (hab : a ≠ b) (h1 : 1 ≤ l) (h2 : l ≤ 20) (h3 : s 1 < 16) : Inv (gPath s a b l) := by
  obtain ⟨⟨g0, g1, g2⟩, i2, i3, i4, i5⟩ := i
  have lo : ∀ j, j < 30 → j ≠ 1 → gPath s a b l j = s j := fun j h h' => by
    unfold gPath
    rw [upN_n h', upN_n (by omega), upN_n (by omega), upN_n (by omega), upN_n (by omega), upN_n (by omega), upN_n (by omega)]
  have old : ∀ q w, q ≠ s 1 → w < 6 → gPath s a b l (30 + 6 * q + w) = s (30 + 6 * q + w) := fun q w h h' => by
    unfold gPath
    rw [upN_n (by omega), upN_n (by omega), upN_n (by omega), upN_n (by omega), upN_n (by omega), upN_n (by omega), upN_n (by omega)]
  have n0 : gPath s a b l (30 + 6 * s 1 + 0) = a := by
    unfold gPath
    rw [upN_n (by omega), upN_n (by omega), upN_n (by omega), upN_n (by omega), upN_n (by omega), upN_n (by omega), upN_s]
  have n1 : gPath s a b l (30 + 6 * s 1 + 1) = b := by
    unfold gPath
    rw [upN_n (by omega), upN_n (by omega), upN_n (by omega), upN_n (by omega), upN_n (by omega), upN_s]
  have n2 : gPath s a b l (30 + 6 * s 1 + 2) = l := by
    unfold gPath
    rw [upN_n (by omega), upN_n (by omega), upN_n (by omega), upN_n (by omega), upN_s]
  have n3 : gPath s a b l (30 + 6 * s 1 + 3) = s 17 := by
    unfold gPath
    rw [upN_n (by omega), upN_n (by omega), upN_n (by omega), upN_s]
  have n4 : gPath s a b l (30 + 6 * s 1 + 4) = 0 := by
    unfold gPath
    rw [upN_n (by omega), upN_n (by omega), upN_s]
  refine ⟨⟨by rw [lo 0 (by omega) (by omega)]; exact g0, show s 1 + 1 ≤ 16 by omega, fun q hq => ?_⟩, ?_, ?_, by rw [lo 8 (by omega) (by omega)]; exact i4, ?_⟩
  · have hq' : q < s 1 + 1 := hq
    unfold pOk
    rw [lo 0 (by omega) (by omega)]
    by_cases c : q = s 1
    · subst c
      rw [n0, n1, n2, n3, n4]
      unfold sOk at i2
      exact ⟨ha, hb, hab, h1, h2, by omega, by omega, by omega⟩
    · rw [old q 0 c (by omega), old q 1 c (by omega), old q 2 c (by omega), old q 3 c (by omega), old q 4 c (by omega)]
      exact g2 q (by omega)
  · unfold sOk at i2 ⊢
    rw [lo 13 (by omega) (by omega), lo 14 (by omega) (by omega), lo 15 (by omega) (by omega), lo 16 (by omega) (by omega), lo 17 (by omega) (by omega), lo 18 (by omega) (by omega), lo 19 (by omega) (by omega)]
    exact i2
  · unfold fOk at i3 ⊢
    rw [lo 7 (by omega) (by omega), lo 0 (by omega) (by omega)]
    exact i3
  · unfold bOk at i5 ⊢
    rw [lo 7 (by omega) (by omega), lo 0 (by omega) (by omega), lo 9 (by omega) (by omega), lo 10 (by omega) (by omega), lo 12 (by omega) (by omega), lo 20 (by omega) (by omega)]
    refine ⟨fun h9 => ?_, i5.2⟩
    obtain ⟨q1, q2, q3, q4, q5, q6, q7⟩ := i5.1 h9
    exact ⟨q1, q2, q3, q4, q5, q6, fun i hi => by rw [lo (20 + i) (by omega) (by omega)]; exact q7 i hi⟩
theorem oPath_inv {s : Nat → Nat} (i : Inv s) {x y z r : Int32} {s' : Nat → Nat} (o : oPath s x y z r s') : Inv s' ∧ (er r ∧ s' = s ∨ nr r) := by
  rcases o with ⟨a, b, l, e1, e2, e3, ha, hb, hab, hl1, hl2, ⟨h1, h2, h3⟩ | ⟨h1, h2, h3⟩⟩ | ⟨h, e4, e5⟩
  · rw [h2, h3]; exact ⟨i, Or.inl ⟨Or.inr (Or.inr (Or.inl rfl)), rfl⟩⟩
  · rw [h2, h3]; exact ⟨Inv_path i ha hb hab hl1 hl2 h1, Or.inr (nr_nI (by omega))⟩
  · rw [e4, e5]; exact ⟨i, Or.inl ⟨Or.inl rfl, rfl⟩⟩
theorem oClose_inv {s : Nat → Nat} (i : Inv s) {x r : Int32} {c : Nat} (hc : c ≤ 1) {s' : Nat → Nat} (o : oClose s x c r s') : Inv s' ∧ (er r ∧ s' = s ∨ nr r) := by
  rcases o with ⟨k, e, hk, ⟨h1, h2, h3⟩ | ⟨h1, h2, h3⟩⟩ | ⟨h, e4, e5⟩
  · rw [h2, h3]; exact ⟨i, Or.inl ⟨Or.inr (Or.inl rfl), rfl⟩⟩
  · rw [h2, h3]
    have h := sumTo_le (f := opn (gClose s k c)) (c := 1) (n := s 1) (fun _ _ => by unfold opn; omega)
    have := i.1.2.1
    exact ⟨Inv_close i hk hc, Or.inr (nr_nI (by omega))⟩
  · rw [e4, e5]; exact ⟨i, Or.inl ⟨Or.inl rfl, rfl⟩⟩
def gFood (s : Nat → Nat) (p : Nat) : Nat → Nat := upN (upN s 7 p) 9 0
def oFood (s : Nat → Nat) (x r : Int32) (s' : Nat → Nat) : Prop := (∃ p, x = nI p ∧ p < s 0 ∧ p ≠ 0 ∧ (s 7 = p ∧ r = -1000000002 ∧ s' = s ∨ s 7 ≠ p ∧ r = nI (s 7) ∧ s' = gFood s p)) ∨ ((¬ ∃ p, p < s 0 ∧ x = nI p) ∨ (∃ p, p < s 0 ∧ x = nI p) ∧ x = nI 0) ∧ r = -1000000001 ∧ s' = s
theorem oFood_ex {s : Nat → Nat} (x : Int32) : ∃ r s', oFood s x r s' := by
  by_cases h1 : ∃ a, a < s 0 ∧ x = nI a
  · have h1' := h1
    obtain ⟨k, hk, e⟩ := h1
    by_cases h0 : k = 0
    · exact ⟨_, _, Or.inr ⟨Or.inr ⟨h1', by rw [e, h0]⟩, rfl, rfl⟩⟩
    · by_cases h2 : s 7 = k
      · exact ⟨_, _, Or.inl ⟨k, e, hk, h0, Or.inl ⟨h2, rfl, rfl⟩⟩⟩
      · exact ⟨_, _, Or.inl ⟨k, e, hk, h0, Or.inr ⟨h2, rfl, rfl⟩⟩⟩
  · exact ⟨_, _, Or.inr ⟨Or.inl h1, rfl, rfl⟩⟩
theorem oFood_inv {s : Nat → Nat} (i : Inv s) {x r : Int32} {s' : Nat → Nat} (o : oFood s x r s') : Inv s' ∧ (er r ∧ s' = s ∨ nr r) := by
  rcases o with ⟨p, e, hp, h0, ⟨h1, h2, h3⟩ | ⟨h1, h2, h3⟩⟩ | ⟨h, e4, e5⟩
  · rw [h2, h3]; exact ⟨i, Or.inl ⟨Or.inr (Or.inl rfl), rfl⟩⟩
  · rw [h2, h3]
    obtain ⟨⟨g0, g1, g2⟩, i2, i3, i4, i5⟩ := i
    have hr := i3.2.1
    refine ⟨⟨⟨g0, g1, fun q hq => ?_⟩, i2, ⟨?_, ?_, Or.inl hp⟩, i4, ⟨fun h9 => absurd rfl h9, i5.2⟩⟩, Or.inr (nr_nI (by omega))⟩
    · have w : ∀ w, gFood s p (30 + 6 * q + w) = s (30 + 6 * q + w) := fun w => by
        unfold gFood
        rw [upN_n (by omega), upN_n (by omega)]
      unfold pOk
      rw [w 0, w 1, w 2, w 3, w 4]
      exact g2 q hq
    · show 0 < p; omega
    · show p < 10; omega
  · rw [e4, e5]; exact ⟨i, Or.inl ⟨Or.inl rfl, rfl⟩⟩
def oLap (s : Nat → Nat) (x r : Int32) (s' : Nat → Nat) : Prop := (∃ n, x = nI n ∧ 1 ≤ n ∧ n ≤ 5 ∧ (s 0 < 2 ∧ r = -1000000002 ∧ s' = s ∨ 2 ≤ s 0 ∧ r = nI (lapN s n 4 - s 4) ∧ s' = lapN s n)) ∨ (¬ ∃ n, 1 ≤ n ∧ n ≤ 5 ∧ x = nI n) ∧ r = -1000000001 ∧ s' = s
theorem oLap_ex {s : Nat → Nat} (x : Int32) : ∃ r s', oLap s x r s' := by
  by_cases h1 : ∃ n, 1 ≤ n ∧ n ≤ 5 ∧ x = nI n
  · obtain ⟨n, n1, n5, e⟩ := h1
    by_cases h2 : s 0 < 2
    · exact ⟨_, _, Or.inl ⟨n, e, n1, n5, Or.inl ⟨h2, rfl, rfl⟩⟩⟩
    · exact ⟨_, _, Or.inl ⟨n, e, n1, n5, Or.inr ⟨by omega, rfl, rfl⟩⟩⟩
  · exact ⟨_, _, Or.inr ⟨h1, rfl, rfl⟩⟩
theorem oLap_inv {s : Nat → Nat} (i : Inv s) {x r : Int32} {s' : Nat → Nat} (o : oLap s x r s') : Inv s' ∧ (er r ∧ s' = s ∨ nr r) := by
  rcases o with ⟨n, e, n1, n5, ⟨h1, h2, h3⟩ | ⟨h1, h2, h3⟩⟩ | ⟨h, e4, e5⟩
  · rw [h2, h3]; exact ⟨i, Or.inl ⟨Or.inr (Or.inl rfl), rfl⟩⟩
  · rw [h2, h3]
    obtain ⟨a, b, c, d⟩ := lapN_ok i h1 n
    exact ⟨a, Or.inr (nr_nI (by omega))⟩
  · rw [e4, e5]; exact ⟨i, Or.inl ⟨Or.inl rfl, rfl⟩⟩
