theorem sumTo_bump {f g : Nat → Nat} {t : Nat} : ∀ {n : Nat}, t < n → (∀ j, j ≠ t → f j = g j) → f t = g t + 1 → sumTo f n = sumTo g n + 1
  | 0, h, _, _ => absurd h (Nat.not_lt_zero _)
  | n + 1, h, h1, h2 => by
    by_cases c : n = t
    · subst c
      have e : sumTo f n = sumTo g n := sumTo_congr (fun k hk => h1 k (by omega))
      simp only [sumTo]
      omega
    · have ih := sumTo_bump (f := f) (g := g) (n := n) (t := t) (by omega) h1 h2
      have h3 := h1 n c
      simp only [sumTo]
      omega
/-- what is kept of every way -/
def IW (s : Nat → Nat) (W : (Nat × Nat × Nat × Nat × (Nat → Nat))) : Prop := W.2.1 ≤ 9 ∧ W.2.2.2.2 0 = 0 ∧ (∀ i, i ≤ W.2.1 → W.2.2.2.2 i < s 0) ∧ W.2.2.1 < 2 ^ 16 ∧ W.2.2.2.1 < 2 ^ 10 ∧ sumTo (bit W.2.2.2.1) 10 = W.2.1 + 1 ∧ (∀ p, p < 10 → (bit W.2.2.2.1 p = 1 ↔ ∃ i, i ≤ W.2.1 ∧ W.2.2.2.2 i = p)) ∧ W.2.1 ≤ W.1 ∧ W.1 ≤ 20 * W.2.1 ∧ (∀ k, bit W.2.2.1 k = 1 → k < s 1 ∧ bit W.2.2.2.1 (s (30 + 6 * k + 0)) = 1 ∧ bit W.2.2.2.1 (s (30 + 6 * k + 1)) = 1)
theorem bit_0 {k : Nat} : bit 0 k = 0 := by unfold bit; rw [Nat.zero_div]
theorem bit_1 {k : Nat} : bit 1 k = if k = 0 then 1 else 0 := by
  have h := @bit_or 0 0 k
  rw [bit_0] at h
  exact h
theorem IW_0 {s : Nat → Nat} (h : 0 < s 0) : IW s W0 := by
  refine ⟨by decide, rfl, fun i _ => h, by decide, by decide, by decide, fun p hp => ?_, by decide, by decide, fun k hk => ?_⟩
  · show bit 1 p = 1 ↔ _
    rw [bit_1]
    constructor
    · intro h
      by_cases c : p = 0
      · exact ⟨0, Nat.le_refl _, c.symm⟩
      · rw [if_neg c] at h; omega
    · rintro ⟨i, _, h⟩
      exact if_pos h.symm
  · exact absurd (show bit 0 k = 1 from hk) (by rw [bit_0]; omega)
theorem IW_hr {s : Nat → Nat} {W : (Nat × Nat × Nat × Nat × (Nat → Nat))} (h : IW s W) : hr W < s 0 ∧ bit W.2.2.2.1 (hr W) = 1 ∨ ¬ s 0 ≤ 10 := by
  by_cases c : s 0 ≤ 10
  · left
    have h1 := h.2.2.1 W.2.1 (Nat.le_refl _)
    exact ⟨h1, (h.2.2.2.2.2.2.1 (hr W) (Nat.lt_of_lt_of_le h1 c)).2 ⟨W.2.1, Nat.le_refl _, rfl⟩⟩
  · right; exact c
theorem oth_end {s : Nat → Nat} {k p : Nat} (g : Gph s) (hk : k < s 1) (h : oth s k p ≠ 10) : oth s k p < s 0 ∧ (p = s (30 + 6 * k + 0) ∧ oth s k p = s (30 + 6 * k + 1) ∨ p = s (30 + 6 * k + 1) ∧ oth s k p = s (30 + 6 * k + 0)) := by
  have h2 := g.2.2 k hk
  unfold pOk at h2
  unfold oth at h ⊢
  by_cases c : s (30 + 6 * k + 0) = p
  · rw [if_pos c]; exact ⟨h2.2.1, Or.inl ⟨c.symm, rfl⟩⟩
  · rw [if_neg c] at h ⊢
    by_cases c2 : s (30 + 6 * k + 1) = p
    · rw [if_pos c2]; exact ⟨h2.1, Or.inr ⟨c2.symm, rfl⟩⟩
    · rw [if_neg c2] at h; exact absurd rfl h
theorem cg_1 {s : Nat → Nat} {h b k : Nat} (g : Gph s) (hk : k < s 1) (hc : cg s h b k = 1) : acr s k h = oth s k h ∧ acr s k h < s 0 ∧ bit b (acr s k h) = 0 ∧ (h = s (30 + 6 * k + 0) ∧ acr s k h = s (30 + 6 * k + 1) ∨ h = s (30 + 6 * k + 1) ∧ acr s k h = s (30 + 6 * k + 0)) := by
  unfold cg at hc
  by_cases c : acr s k h = 10
  · rw [if_pos c] at hc; omega
  · rw [if_neg c] at hc
    have e : acr s k h = oth s k h := by
      unfold acr at c ⊢
      by_cases c1 : s (30 + 6 * k + 4) = 1
      · rw [if_pos c1] at c; exact absurd rfl c
      · rw [if_neg c1]
    have h2 := oth_end (p := h) g hk (by rw [← e]; exact c)
    rw [← e] at h2
    exact ⟨e, h2.1, by omega, h2.2⟩
theorem sumTo_bit_le {b : Nat} : ∀ n, sumTo (bit b) n ≤ n
  | 0 => Nat.le_refl _
  | n + 1 => by have := sumTo_bit_le (b := b) n; have := @bit_lt b n; simp only [sumTo]; omega
theorem IW_adv {s : Nat → Nat} {W : (Nat × Nat × Nat × Nat × (Nat → Nat))} {k : Nat} (g : Gph s) (i : IW s W) (hk : k < s 1) (hc : cg s (hr W) W.2.2.2.1 k = 1) : W.2.1 < 9 ∧ IW s (adv s W k) := by
  obtain ⟨g0, g1, g2⟩ := g
  obtain ⟨c1, c2, c3, c4⟩ := cg_1 ⟨g0, g1, g2⟩ hk hc
  have p := g2 k hk
  unfold pOk at p
  obtain ⟨j1, j2, j3, j4, j5, j6, j7, j8, j9, j10⟩ := i
  generalize ht : acr s k (hr W) = t at *
  have hsum : sumTo (bit (W.2.2.2.1 ||| 2 ^ t)) 10 = sumTo (bit W.2.2.2.1) 10 + 1 := by
    refine sumTo_bump (t := t) (by omega) (fun j hj => ?_) ?_
    · rw [bit_or, if_neg hj]
    · rw [bit_or, if_pos rfl, c3]
  have hle := sumTo_bit_le (b := W.2.2.2.1 ||| 2 ^ t) 10
  have hm : W.2.1 < 9 := by omega
  have hb : ∀ p, bit W.2.2.2.1 p = 1 → bit (W.2.2.2.1 ||| 2 ^ t) p = 1 := fun p h => by
    rw [bit_or]; split
    · rfl
    · exact h
  have hu : ∀ i, i ≤ W.2.1 → upN W.2.2.2.2 (W.2.1 + 1) t i = W.2.2.2.2 i := fun i hi => upN_n (by omega)
  refine ⟨hm, ?_⟩
  unfold IW adv
  simp only [ht]
  refine ⟨by omega, ?_, fun i hi => ?_, or_lt j4 (by omega), or_lt j5 (by omega), by omega, fun p hp => ?_, by omega, by omega, fun q hq => ?_⟩
  · rw [hu 0 (by omega)]; exact j2
  · by_cases c : i = W.2.1 + 1
    · rw [c, upN_s]; exact c2
    · rw [hu i (by omega)]; exact j3 i (by omega)
  · constructor
    · intro h
      rw [bit_or] at h
      by_cases c : p = t
      · exact ⟨W.2.1 + 1, Nat.le_refl _, by rw [upN_s, c]⟩
      · rw [if_neg c] at h
        obtain ⟨i, hi, e⟩ := (j7 p hp).1 h
        exact ⟨i, by omega, by rw [hu i hi, e]⟩
    · rintro ⟨i, hi, e⟩
      by_cases c : i = W.2.1 + 1
      · rw [c, upN_s] at e
        rw [bit_or, if_pos e.symm]
      · rw [hu i (by omega)] at e
        exact hb p ((j7 p hp).2 ⟨i, by omega, e⟩)
  · rw [bit_or] at hq
    have hh : bit W.2.2.2.1 (hr W) = 1 := (j7 (hr W) (by have := j3 W.2.1 (Nat.le_refl _); unfold hr; omega)).2 ⟨W.2.1, Nat.le_refl _, rfl⟩
    by_cases c : q = k
    · subst c
      refine ⟨hk, ?_⟩
      rcases c4 with ⟨e1, e2⟩ | ⟨e1, e2⟩
      · rw [← e1, ← e2]
        exact ⟨hb _ hh, by rw [bit_or, if_pos rfl]⟩
      · rw [← e1, ← e2]
        exact ⟨by rw [bit_or, if_pos rfl], hb _ hh⟩
    · rw [if_neg c] at hq
      obtain ⟨a1, a2, a3⟩ := j10 q hq
      exact ⟨a1, hb _ a2, hb _ a3⟩
/-- the path that an ant draws -/
def pkx (s : Nat → Nat) (x : Nat) (W : (Nat × Nat × Nat × Nat × (Nat → Nat))) : Nat := pick (aw s (hr W) W.2.2.2.1) (nx x % sm s (hr W) W.2.2.2.1) (s 1)
theorem pkx_ok {s : Nat → Nat} {x : Nat} {W : (Nat × Nat × Nat × Nat × (Nat → Nat))} (h0 : sm s (hr W) W.2.2.2.1 ≠ 0) : pkx s x W < s 1 ∧ cg s (hr W) W.2.2.2.1 (pkx s x W) = 1 := by
  have hp := pick_spec (f := aw s (hr W) W.2.2.2.1) (d := nx x % sm s (hr W) W.2.2.2.1) (n := s 1) (Nat.mod_lt _ (by omega))
  refine ⟨hp.1, ?_⟩
  have h2 : 0 < aw s (hr W) W.2.2.2.1 (pkx s x W) := by
    have h3 := hp.2
    rw [show sumTo (aw s (hr W) W.2.2.2.1) (pick (aw s (hr W) W.2.2.2.1) (nx x % sm s (hr W) W.2.2.2.1) (s 1) + 1) = sumTo (aw s (hr W) W.2.2.2.1) (pick (aw s (hr W) W.2.2.2.1) (nx x % sm s (hr W) W.2.2.2.1) (s 1)) + aw s (hr W) W.2.2.2.1 (pick (aw s (hr W) W.2.2.2.1) (nx x % sm s (hr W) W.2.2.2.1) (s 1)) from rfl] at h3
    unfold pkx
    omega
  unfold aw at h2
  by_cases c : cg s (hr W) W.2.2.2.1 (pkx s x W) = 1
  · exact c
  · rw [if_neg c] at h2; omega
def walk (s : Nat → Nat) : Nat → Nat → (Nat × Nat × Nat × Nat × (Nat → Nat)) → Nat × (Nat × Nat × Nat × Nat × (Nat → Nat)) × Nat
  | 0, x, W => (x, W, 0)
  | n + 1, x, W => if hr W = s 7 then (x, W, 0) else if sm s (hr W) W.2.2.2.1 = 0 then (x, W, 1) else if s 19 < W.1 + s (30 + 6 * pkx s x W + 2) then (nx x, W, 2) else walk s n (nx x) (adv s W (pkx s x W))
theorem nx_lt {x : Nat} : nx x < 2147483647 := Nat.mod_lt _ (by decide)
theorem walk_ok {s : Nat → Nat} (g : Gph s) : ∀ (n x : Nat) (W : (Nat × Nat × Nat × Nat × (Nat → Nat))), W.2.1 + n = 10 → IW s W → x < 2147483647 → (walk s n x W).1 < 2147483647 ∧ IW s (walk s n x W).2.1 ∧ (walk s n x W).2.2 ≤ 2 ∧ ((walk s n x W).2.2 = 0 → hr (walk s n x W).2.1 = s 7)
  | 0, x, W, hn, i, _ => by have := i.1; omega
  | n + 1, x, W, hn, i, hx => by
    unfold walk
    by_cases c1 : hr W = s 7
    · rw [if_pos c1]; exact ⟨hx, i, show 0 ≤ 2 by decide, fun _ => c1⟩
    · rw [if_neg c1]
      by_cases c2 : sm s (hr W) W.2.2.2.1 = 0
      · rw [if_pos c2]; exact ⟨hx, i, show 1 ≤ 2 by decide, fun h => absurd h (show ¬ 1 = 0 by decide)⟩
      · rw [if_neg c2]
        by_cases c3 : s 19 < W.1 + s (30 + 6 * pkx s x W + 2)
        · rw [if_pos c3]; exact ⟨nx_lt, i, show 2 ≤ 2 by decide, fun h => absurd h (show ¬ 2 = 0 by decide)⟩
        · rw [if_neg c3]
          obtain ⟨p1, p2⟩ := pkx_ok (x := x) c2
          have ia := (IW_adv g i p1 p2).2
          exact walk_ok g n (nx x) _ (by show W.2.1 + 1 + n = 10; omega) ia nx_lt
theorem eqg_IW {s s' : Nat → Nat} (e : Eqg s s') (g : Gph s) {W : (Nat × Nat × Nat × Nat × (Nat → Nat))} (i : IW s W) : IW s' W := by
  obtain ⟨e0, e1, e2⟩ := e
  unfold IW at i ⊢
  rw [e0, e1]
  refine ⟨i.1, i.2.1, i.2.2.1, i.2.2.2.1, i.2.2.2.2.1, i.2.2.2.2.2.1, i.2.2.2.2.2.2.1, i.2.2.2.2.2.2.2.1, i.2.2.2.2.2.2.2.2.1, fun k hk => ?_⟩
  have h := i.2.2.2.2.2.2.2.2.2 k hk
  have := g.2.1
  rw [e2 k 0 (by omega) (by omega), e2 k 1 (by omega) (by omega)]
  exact h
theorem pick_congr {f g : Nat → Nat} {d : Nat} : ∀ {n : Nat}, (∀ k, k < n → f k = g k) → pick f d n = pick g d n
  | 0, _ => rfl
  | n + 1, h => by
    unfold pick
    rw [sumTo_congr (fun k hk => h k (by omega)), pick_congr (n := n) (fun k hk => h k (by omega))]
theorem eqg_sm {s s' : Nat → Nat} (e : Eqg s s') (g : Gph s) {h b : Nat} : sm s' h b = sm s h b := by
  unfold sm
  rw [e.2.1]
  exact sumTo_congr (fun k hk => eqg_aw e (by have := g.2.1; omega))
theorem eqg_pkx {s s' : Nat → Nat} (e : Eqg s s') (g : Gph s) {x : Nat} {W : (Nat × Nat × Nat × Nat × (Nat → Nat))} : pkx s' x W = pkx s x W := by
  unfold pkx
  rw [eqg_sm e g, e.2.1]
  exact pick_congr (fun k hk => eqg_aw e (by have := g.2.1; omega))
theorem eqg_adv {s s' : Nat → Nat} (e : Eqg s s') {W : (Nat × Nat × Nat × Nat × (Nat → Nat))} {k : Nat} (hk : k < 16) : adv s' W k = adv s W k := by
  unfold adv
  rw [eqg_acr e hk, e.2.2 k 2 (by omega) hk]
/-- what a way leaves behind of counts -/
def mkS (s : Nat → Nat) (x a b : Nat) : Nat → Nat := fun j => if j = 8 then x else if 30 ≤ j ∧ j < 126 ∧ j % 6 = 5 then s j + bit a ((j - 30) / 6) else if 128 ≤ j ∧ j < 146 ∧ j % 2 = 0 then s j + bit b ((j - 126) / 2) else s j
theorem eqg_mk {s : Nat → Nat} {x a b : Nat} : Eqg s (mkS s x a b) := by
  refine ⟨rfl, rfl, fun k w hw hk => ?_⟩
  unfold mkS
  rw [if_neg (by omega), if_neg (by omega), if_neg (by omega)]
theorem mk_8 {s : Nat → Nat} {x a b : Nat} : mkS s x a b 8 = x := rfl
theorem mk_lo {s : Nat → Nat} {x a b j : Nat} (h : j < 30) (h8 : j ≠ 8) : mkS s x a b j = s j := by
  unfold mkS
  rw [if_neg h8, if_neg (by omega), if_neg (by omega)]
theorem mk_x {s : Nat → Nat} {x y a b : Nat} : upN (mkS s x a b) 8 y = mkS s y a b := by
  funext j
  unfold upN mkS
  by_cases c : j = 8
  · rw [if_pos c, if_pos c]
  · rw [if_neg c, if_neg c, if_neg c]
theorem mk_0 {s : Nat → Nat} : mkS s (s 8) 0 1 = s := by
  funext j
  unfold mkS
  by_cases c : j = 8
  · rw [if_pos c, c]
  · rw [if_neg c]
    by_cases c1 : 30 ≤ j ∧ j < 126 ∧ j % 6 = 5
    · rw [if_pos c1, bit_0]; exact Nat.add_zero _
    · rw [if_neg c1]
      by_cases c2 : 128 ≤ j ∧ j < 146 ∧ j % 2 = 0
      · rw [if_pos c2, bit_1, if_neg (by omega)]; exact Nat.add_zero _
      · rw [if_neg c2]
theorem mk_go {s : Nat → Nat} {x a b k t : Nat} (hk : k < 16) (ht : t < 10) (h0 : t ≠ 0) (ha : bit a k = 0) (hb : bit b t = 0) : upN (upN (mkS s x a b) (30 + 6 * k + 5) (mkS s x a b (30 + 6 * k + 5) + 1)) (126 + 2 * t + 0) (mkS s x a b (126 + 2 * t + 0) + 1) = mkS s x (a ||| 2 ^ k) (b ||| 2 ^ t) := by
  have d1 : (126 + 2 * t + 0 - 126) / 2 = t := by omega
  have d2 : (30 + 6 * k + 5 - 30) / 6 = k := by omega
  have e1 : mkS s x a b (126 + 2 * t + 0) = s (126 + 2 * t + 0) := by
    unfold mkS
    rw [if_neg (by omega), if_neg (by omega), if_pos (by omega), d1, hb]; exact Nat.add_zero _
  have e2 : mkS s x a b (30 + 6 * k + 5) = s (30 + 6 * k + 5) := by
    unfold mkS
    rw [if_neg (by omega), if_pos (by omega), d2, ha]; exact Nat.add_zero _
  funext j
  by_cases c1 : j = 126 + 2 * t + 0
  · subst c1
    rw [upN_s, e1]
    unfold mkS
    rw [if_neg (by omega), if_neg (by omega), if_pos (by omega), d1, bit_or, if_pos rfl]
  · rw [upN_n c1]
    by_cases c2 : j = 30 + 6 * k + 5
    · subst c2
      rw [upN_s, e2]
      unfold mkS
      rw [if_neg (by omega), if_pos (by omega), d2, bit_or, if_pos rfl]
    · rw [upN_n c2]
      unfold mkS
      by_cases c3 : j = 8
      · rw [if_pos c3, if_pos c3]
      · rw [if_neg c3, if_neg c3]
        by_cases c4 : 30 ≤ j ∧ j < 126 ∧ j % 6 = 5
        · rw [if_pos c4, if_pos c4, bit_or, if_neg (by omega)]
        · rw [if_neg c4, if_neg c4]
          by_cases c5 : 128 ≤ j ∧ j < 146 ∧ j % 2 = 0
          · rw [if_pos c5, if_pos c5, bit_or, if_neg (by omega)]
          · rw [if_neg c5, if_neg c5]
/-- what the end of an ant adds -/
def fin (s : Nat → Nat) (h y : Nat) : Nat → Nat := fun j => if j = 127 + 2 * h then s j + (if y = 1 then 1 else 0) else if j = 3 then s j + 1 else if j = 4 + y then s j + 1 else s j
def wlk (s : Nat → Nat) : Nat × (Nat × Nat × Nat × Nat × (Nat → Nat)) × Nat := walk s 10 (s 8) W0
def antS (s : Nat → Nat) : Nat → Nat := fin (mkS s (wlk s).1 (wlk s).2.1.2.2.1 (wlk s).2.1.2.2.2.1) (hr (wlk s).2.1) (wlk s).2.2
