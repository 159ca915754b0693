/-! what the law asks of the shortest ways, the chances, the ants to come -/
theorem Dr_fl {s : Nat → Nat} (g : Gph s) (h0 : 1 ≤ s 0) : Fl s (Dr s (s 0)) := by
  have e := Dr_end g h0
  have h : ∀ p, rds s (Dr s (s 0 - 1)) (s 1) p = Dr s (s 0 - 1) p := fun p => by
    have q := congrFun e p
    rw [show Dr s (s 0) = Dr s (s 0 - 1 + 1) from by rw [show s 0 - 1 + 1 = s 0 by omega]] at q
    exact q
  rw [e]
  exact Fl_of h
theorem far_le {s e : Nat → Nat} (g : Gph s) (f : Fl s e) (su : Su s e) (h0 : e 0 = 0) : ∀ r v, v < s 0 → e v < 1000 → rk s e v ≤ r → e v ≤ 20 * r := by
  have low : ∀ v, v ≠ 0 → v < s 0 → e v < 1000 → ∃ u l, Ed s u v l ∧ e u + l = e v ∧ rk s e u < rk s e v := by
    intro v v0 hv hf
    obtain ⟨u, l, ed, h⟩ := su v v0 hf
    have h2 := f u v l ed
    obtain ⟨l1, l2, l3⟩ := ed_lt g ed
    refine ⟨u, l, ed, by omega, sumTo_lt (u := u) (fun k _ => ?_) l1 ?_⟩
    · show (if e k < e u then 1 else 0) ≤ (if e k < e v then 1 else 0)
      by_cases c : e k < e u
      · rw [if_pos c, if_pos (by omega)]; exact Nat.le_refl _
      · rw [if_neg c]; exact Nat.zero_le _
    · show (if e u < e u then 1 else 0) < (if e u < e v then 1 else 0)
      rw [if_neg (by omega), if_pos (by omega)]
      decide
  intro r
  induction r with
  | zero =>
    intro v hv hf hr
    by_cases v0 : v = 0
    · rw [v0, h0]; exact Nat.zero_le _
    · obtain ⟨u, l, _, _, h⟩ := low v v0 hv hf
      omega
  | succ r ih =>
    intro v hv hf hr
    by_cases v0 : v = 0
    · rw [v0, h0]; exact Nat.zero_le _
    · obtain ⟨u, l, ed, h, h2⟩ := low v v0 hv hf
      obtain ⟨l1, l2, l3⟩ := ed_lt g ed
      have iu := ih u l1 (by omega) (by omega)
      have l20 : l ≤ 20 := by
        obtain ⟨k, hk, _, hl, _⟩ := ed
        have p := g.2.2 k hk
        unfold pOk at p
        omega
      omega
theorem far_200 {s : Nat → Nat} (g : Gph s) {v : Nat} (hv : v < s 0) (h : Dr s (s 0) v < 1000) : Dr s (s 0) v ≤ 200 := by
  have f := Dr_fl g (by omega)
  have b := sumTo_le (f := fun p => if Dr s (s 0) p < Dr s (s 0) v then 1 else 0) (c := 1) (n := s 0) (fun k _ => by
    show (if Dr s (s 0) k < Dr s (s 0) v then 1 else 0) ≤ 1
    split <;> omega)
  have g0 := g.1
  have q := far_le g f (Dr_su g _) (Dr_0 _) (s 0) v hv h (by unfold rk; omega)
  omega
/-- over an open path: both ends have a way or none, and they lie no farther apart than it is long -/
theorem tri {s : Nat → Nat} (g : Gph s) {k : Nat} (hk : k < s 1) (hc : s (30 + 6 * k + 4) ≠ 1) : Dr s (s 0) (s (30 + 6 * k + 1)) ≤ Dr s (s 0) (s (30 + 6 * k + 0)) + s (30 + 6 * k + 2) ∧ Dr s (s 0) (s (30 + 6 * k + 0)) ≤ Dr s (s 0) (s (30 + 6 * k + 1)) + s (30 + 6 * k + 2) ∧ (Dr s (s 0) (s (30 + 6 * k + 0)) < 1000 ↔ Dr s (s 0) (s (30 + 6 * k + 1)) < 1000) := by
  have p := g.2.2 k hk
  unfold pOk at p
  have f := Dr_fl g (by omega)
  obtain ⟨e1, e2⟩ := ed1 hk hc
  have f1 := f _ _ _ e1
  have f2 := f _ _ _ e2
  have b1 := fun h => far_200 g (v := s (30 + 6 * k + 0)) (by omega) h
  have b2 := fun h => far_200 g (v := s (30 + 6 * k + 1)) (by omega) h
  refine ⟨by omega, by omega, fun h => ?_, fun h => ?_⟩
  · have := b1 h; omega
  · have := b2 h; omega
theorem dist_y {s : Nat → Nat} {p : Nat} (h : Dr s (s 0) p < 1000) : dist s p = nI (Dr s (s 0) p) := if_pos h
theorem dist_n {s : Nat → Nat} {p : Nat} (h : ¬ Dr s (s 0) p < 1000) : dist s p = -1000000004 := if_neg h
theorem acr_one {s : Nat → Nat} (g : Gph s) {k : Nat} (hk : k < s 1) : (acr s k (s (30 + 6 * k + 0)) = 10 ↔ s (30 + 6 * k + 4) = 1) := by
  have p := g.2.2 k hk
  unfold pOk at p
  have g0 := g.1
  unfold acr oth
  by_cases c : s (30 + 6 * k + 4) = 1
  · rw [if_pos c]
    exact ⟨fun _ => c, fun _ => rfl⟩
  · rw [if_neg c, if_pos rfl]
    exact ⟨fun h => by omega, fun h => absurd h c⟩
theorem IW_m {s : Nat → Nat} {W : (Nat × Nat × Nat × Nat × (Nat → Nat))} (g : Gph s) (i : IW s W) : W.2.1 < s 0 := by
  have e := sumTo_z (f := bit W.2.2.2.1) (a := s 0) (b := 10) g.1 (fun k h1 h2 => IW_bn i h1 h2)
  have l := sumTo_bit_le (b := W.2.2.2.1) (s 0)
  have t := i.2.2.2.2.2.1
  omega
theorem gW_ok {s : Nat → Nat} (i : Inv s) (h2 : 2 ≤ s 0) : (gW s).1 ≤ 180 ∧ (gW s).2.1 < s 0 := by
  have w := gwalk_ok i.1 10 W0 rfl (IW_0 (by omega))
  have m := IW_m i.1 w
  have w1 := w.1
  have w2 := w.2.2.2.2.2.2.2.2.1
  unfold gW
  exact ⟨by omega, m⟩
/-- ants that would find the food, and such that would be stuck -/
theorem would_ok {s : Nat → Nat} (i : Inv s) (x : Ex s) (h2 : 2 ≤ s 0) (p : PJ 0 s) {n : Nat} (hn : n ≤ 5) : ∃ f h, aWould s n 0 = nI f ∧ aWould s n 1 = nI h ∧ f + h ≤ n * s 13 ∧ n * s 13 ≤ 25 ∧ nI (lapN s n 4 - s 4) = nI f ∧ nI (s 5) + nI h = nI (lapN s n 5) := by
  obtain ⟨a1, a2, a3, a4⟩ := lapN_ok i h2 n
  obtain ⟨b1, b2, b3, b4, b5, b6⟩ := lapN_p i h2 p n
  have e := lapN_x i h2 x n
  have e1 := e.1
  have x1 := x.1
  have s13 := i.2.1
  unfold sOk at s13
  have m : n * s 13 ≤ 5 * 5 := Nat.mul_le_mul hn s13.2.1
  refine ⟨lapN s n 4 - s 4, lapN s n 5 - s 5, ?_, ?_, by omega, by omega, rfl, by rw [nI_add]; congr 1; omega⟩
  · show nI (lapN s n 4) - nI (s 4) = _
    exact pk_sub a3
  · show nI (lapN s n 5) - nI (s 5) = _
    exact pk_sub b4
theorem ant_ok {s : Nat → Nat} (i : Inv s) (h2 : 2 ≤ s 0) (p : PJ 0 s) : aAnt s 0 ≤ 2 ∧ (aAnt s 0 = 0 ↔ aAnt s 2 = s 7) ∧ aAnt s 1 ≤ s 19 := by
  obtain ⟨w1, w2, w3, w4⟩ := wlk_ok i h2
  obtain ⟨p1, p2, p3, p4⟩ := wlk_p i h2 p.2.2.1
  exact ⟨w3, ⟨w4, fun h => by
    by_cases c : (wlk s).2.2 = 0
    · exact c
    · exact absurd h (p4 c)⟩, p3⟩
theorem wn_of {s : Nat → Nat} (i : Inv s) (x : Ex s) : sumTo (fun k => s (30 + 6 * k + 5)) (s 1) = wnS s := (sumTo_z (f := fun k => s (30 + 6 * k + 5)) i.1.2.1 (fun k h1 h2 => (x.2 k h1 h2).2)).symm
theorem cm_of {s : Nat → Nat} (i : Inv s) (p : PJ 0 s) : sumTo (fun p => s (126 + 2 * p + 0)) (s 0) = cmS s := (sumTo_z (f := fun p => s (126 + 2 * p)) i.1.1 (fun k h1 h2 => (p.2.2.2.2.1 k h1 h2).1)).symm
theorem sk_of {s : Nat → Nat} (i : Inv s) (p : PJ 0 s) : sumTo (fun p => s (126 + 2 * p + 1)) (s 0) = skS s := by
  have e := sumTo_z (f := fun p => s (127 + 2 * p)) i.1.1 (fun k h1 h2 => (p.2.2.2.2.1 k h1 h2).2)
  unfold skS
  rw [e]
  exact sumTo_congr (fun k _ => by show s (126 + 2 * k + 1) = s (127 + 2 * k); congr 1; omega)
theorem tr_of {s : Nat → Nat} (c : Nat) (h : ∀ k, k < s 1 → s (30 + 6 * k + 3) = c) : ∀ n, n ≤ s 1 → sumTo (trl s) n = n * c
  | 0, _ => (Nat.zero_mul _).symm
  | n + 1, hn => by
    have ih := tr_of c h n (by omega)
    have q := h n (by omega)
    have m : (n + 1) * c = n * c + c := Nat.succ_mul _ _
    simp only [sumTo]
    unfold trl at ih ⊢
    omega
