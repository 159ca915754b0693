theorem IW_b0 {s : Nat → Nat} {W : (Nat × Nat × Nat × Nat × (Nat → Nat))} (i : IW s W) : bit W.2.2.2.1 0 = 1 := (i.2.2.2.2.2.2.1 0 (by omega)).2 ⟨0, Nat.zero_le _, i.2.1⟩
theorem IW_bn {s : Nat → Nat} {W : (Nat × Nat × Nat × Nat × (Nat → Nat))} (i : IW s W) {p : Nat} (hp : s 0 ≤ p) (h10 : p < 10) : bit W.2.2.2.1 p = 0 := by
  have l := @bit_lt W.2.2.2.1 p
  rcases (show bit W.2.2.2.1 p = 0 ∨ bit W.2.2.2.1 p = 1 by omega) with q | q
  · exact q
  · obtain ⟨j, hj, e⟩ := (i.2.2.2.2.2.2.1 p h10).1 q
    have := i.2.2.1 j hj
    omega
theorem antS_at {s : Nat → Nat} (i : Inv s) (h2 : 2 ≤ s 0) : (∀ k, k < 16 → antS s (30 + 6 * k + 5) = s (30 + 6 * k + 5) + bit (wlk s).2.1.2.2.1 k) ∧ (∀ p, p < 10 → antS s (126 + 2 * p) = s (126 + 2 * p) + (if p = 0 then 0 else bit (wlk s).2.1.2.2.2.1 p)) ∧ (∀ p, p < 10 → antS s (127 + 2 * p) = s (127 + 2 * p) + (if p = hr (wlk s).2.1 then (if (wlk s).2.2 = 1 then 1 else 0) else 0)) ∧ antS s 3 = s 3 + 1 ∧ (∀ j, j < 3 → antS s (4 + j) = s (4 + j) + (if j = (wlk s).2.2 then 1 else 0)) ∧ antS s 8 = (wlk s).1 := by
  obtain ⟨w1, w2, w3, w4⟩ := wlk_ok i h2
  have hh : hr (wlk s).2.1 < 10 := by
    have h1 := w2.2.2.1 (wlk s).2.1.2.1 (Nat.le_refl _)
    have h3 := i.1.1
    unfold hr
    omega
  unfold antS
  generalize (wlk s).2.2 = y at *
  generalize hr (wlk s).2.1 = h at *
  generalize (wlk s).2.1.2.2.1 = a at *
  generalize (wlk s).2.1.2.2.2.1 = b at *
  generalize (wlk s).1 = x at *
  refine ⟨fun k hk => ?_, fun p hp => ?_, fun p hp => ?_, ?_, fun j hj => ?_, ?_⟩
  · rw [fin_n (by omega) (by omega) w3]
    unfold mkS
    rw [if_neg (by omega), if_pos (by omega), show (30 + 6 * k + 5 - 30) / 6 = k by omega]
  · rw [fin_n (by omega) (by omega) w3]
    unfold mkS
    by_cases c : p = 0
    · rw [if_neg (by omega), if_neg (by omega), if_neg (by omega), if_pos c]; rfl
    · rw [if_neg (by omega), if_neg (by omega), if_pos (by omega), if_neg c, show (126 + 2 * p - 126) / 2 = p by omega]
  · have m : mkS s x a b (127 + 2 * p) = s (127 + 2 * p) := by
      unfold mkS
      rw [if_neg (by omega), if_neg (by omega), if_neg (by omega)]
    unfold fin
    by_cases c : p = h
    · rw [if_pos (by omega), if_pos c, m]
    · rw [if_neg (by omega), if_neg (by omega), if_neg (by omega), if_neg c, m]; rfl
  · unfold fin
    rw [if_neg (by omega), if_pos rfl, mk_lo (by omega) (by omega)]
  · unfold fin
    rw [if_neg (by omega), if_neg (by omega), mk_lo (by omega) (by omega)]
    by_cases c : j = y
    · rw [if_pos (by omega), if_pos c]
    · rw [if_neg (by omega), if_neg c]; rfl
  · rw [fin_n (by omega) (by omega) w3, mk_8]
theorem antS_p {s : Nat → Nat} (i : Inv s) (h2 : 2 ≤ s 0) (h : PJ 1 s) : wnS (antS s) = cmS (antS s) ∧ skS (antS s) = antS s 5 ∧ 0 < antS s 8 ∧ antS s 126 = 0 ∧ ∀ p, s 0 ≤ p → p < 10 → antS s (126 + 2 * p) = 0 ∧ antS s (127 + 2 * p) = 0 := by
  obtain ⟨a1, a2, a3, a4, a5, a6⟩ := h
  obtain ⟨w1, w2, w3, w4⟩ := wlk_ok i h2
  obtain ⟨p1, p2, p3, p4⟩ := wlk_p i h2 a3
  obtain ⟨b1, b2, b3, b4, b5, b6⟩ := antS_at i h2
  have hh : hr (wlk s).2.1 < s 0 := w2.2.2.1 (wlk s).2.1.2.1 (Nat.le_refl _)
  have h10 := i.1.1
  have e1 : wnS (antS s) = wnS s + sumTo (bit (wlk s).2.1.2.2.1) 16 := sumTo_add (fun k hk => b1 k hk)
  have e2 : cmS (antS s) = cmS s + sumTo (fun p => if p = 0 then 0 else bit (wlk s).2.1.2.2.2.1 p) 10 := sumTo_add (fun k hk => b2 k hk)
  have e3 : sumTo (bit (wlk s).2.1.2.2.2.1) 10 = sumTo (fun p => if p = 0 then 0 else bit (wlk s).2.1.2.2.2.1 p) 10 + 1 := sumTo_bump (t := 0) (by omega) (fun j hj => by
    show _ = if j = 0 then 0 else _
    rw [if_neg hj]) (by
    show _ = (if 0 = 0 then 0 else _) + 1
    rw [if_pos rfl, IW_b0 w2])
  have e4 : sumTo (bit (wlk s).2.1.2.2.2.1) 10 = (wlk s).2.1.2.1 + 1 := w2.2.2.2.2.2.1
  have e5 : sumTo (bit (wlk s).2.1.2.2.1) 16 = (wlk s).2.1.2.1 := p2
  have e6 : skS (antS s) = skS s + sumTo (fun p => if p = hr (wlk s).2.1 then (if (wlk s).2.2 = 1 then 1 else 0) else 0) 10 := sumTo_add (fun k hk => b3 k hk)
  have z : sumTo (fun _ => 0) 10 = 0 := by decide
  have e7 : sumTo (fun p => if p = hr (wlk s).2.1 then (if (wlk s).2.2 = 1 then 1 else 0) else 0) 10 = if (wlk s).2.2 = 1 then 1 else 0 := by
    by_cases c : (wlk s).2.2 = 1
    · have q := sumTo_bump (f := fun p => if p = hr (wlk s).2.1 then (if (wlk s).2.2 = 1 then 1 else 0) else 0) (g := fun _ => 0) (t := hr (wlk s).2.1) (n := 10) (by omega) (fun j hj => by
        show (if j = _ then _ else 0) = 0
        rw [if_neg hj]) (by
        show (if hr (wlk s).2.1 = hr (wlk s).2.1 then (if (wlk s).2.2 = 1 then 1 else 0) else 0) = 0 + 1
        rw [if_pos rfl, if_pos c])
      exact q.trans (by rw [z]; exact (if_pos c).symm)
    · rw [if_neg c]
      refine Eq.trans (sumTo_congr (g := fun _ => 0) (fun k hk => ?_)) z
      split <;> rfl
  have e8 : antS s 5 = s 5 + (if 1 = (wlk s).2.2 then 1 else 0) := b5 1 (by omega)
  refine ⟨by omega, ?_, by rw [b6]; exact p1, ?_, fun p hp hq => ⟨?_, ?_⟩⟩
  · rw [e6, e7, e8, a2]
    by_cases c : (wlk s).2.2 = 1
    · rw [if_pos c, if_pos c.symm]
    · rw [if_neg c, if_neg (fun q => c q.symm)]
  · have q := b2 0 (by omega)
    rw [if_pos rfl] at q
    show antS s (126 + 2 * 0) = 0
    rw [q]
    exact a4
  · rw [b2 p hq, (a5 p hp hq).1, IW_bn w2 hp hq]
    split <;> rfl
  · rw [b3 p hq, (a5 p hp hq).2, if_neg (by omega)]
theorem stp_hi {s : Nat → Nat} (i : Inv s) (h2 : 2 ≤ s 0) {j : Nat} (h : j < 9 ∨ 13 ≤ j ∧ j < 20 ∨ 30 ≤ j) : stp s j = antS s j := by
  obtain ⟨w1, w2, w3, w4⟩ := wlk_ok i h2
  have w10 := w2.1
  unfold stp bst
  split
  · split
    · exact isb_n (by omega) h
    · rfl
  · rfl
theorem stp_p {s : Nat → Nat} (i : Inv s) (h2 : 2 ≤ s 0) (h : PJ 1 s) : PJ 1 (stp s) := by
  obtain ⟨q1, q2, q3, q4, q5⟩ := antS_p i h2 h
  obtain ⟨a1, a2, a3⟩ := antS_kp i h2
  obtain ⟨w1, w2, w3, w4⟩ := wlk_ok i h2
  have w10 := w2.1
  have hi : ∀ j, j < 9 ∨ 13 ≤ j ∧ j < 20 ∨ 30 ≤ j → stp s j = antS s j := fun j hj => stp_hi i h2 hj
  have e1 : wnS (stp s) = wnS (antS s) := sumTo_congr (fun k hk => hi _ (by omega))
  have e2 : cmS (stp s) = cmS (antS s) := sumTo_congr (fun k hk => hi _ (by omega))
  have e3 : skS (stp s) = skS (antS s) := sumTo_congr (fun k hk => hi _ (by omega))
  have e0 : stp s 0 = s 0 := by rw [hi 0 (by omega)]; exact a1.1.1
  refine ⟨by rw [e1, e2]; exact q1, by rw [e3, hi 5 (by omega)]; exact q2, by rw [hi 8 (by omega)]; exact q3, by rw [hi 126 (by omega)]; exact q4, fun p hp hq => ?_, ?_⟩
  · rw [hi _ (by omega), hi _ (by omega)]
    exact q5 p (by omega) hq
  · unfold PBt
    rw [hi 7 (by omega), hi 2 (by omega), hi 1 (by omega), a1.2.1, a1.2.2.1, a1.1.2.1]
    have old : antS s 9 ≠ 0 → antS s (20 + antS s 10) = s 7 ∧ antS s 11 < s 2 + 1 ∧ ∀ k, s 1 ≤ k → bit (antS s 12) k = 0 := fun h9 => by
      rw [a3 9 (by omega) (by omega)] at h9
      have hs := (i.2.2.2.2.1 h9).2.2.1
      rw [a3 10 (by omega) (by omega), a3 (20 + s 10) (by omega) (by omega), a3 11 (by omega) (by omega), a3 12 (by omega) (by omega)]
      exact h.2.2.2.2.2 h9
    unfold stp bst
    split
    · rename_i c
      split
      · intro _
        refine ⟨?_, ?_, fun k hk => ?_⟩
        · show isb (antS s) (wlk s).2.1 ((wlk s).2.1.2.1 + 1) (20 + (wlk s).2.1.2.1) = s 7
          unfold isb
          rw [if_neg (by omega), if_neg (by omega), if_neg (by omega), if_neg (by omega), if_pos (by omega), show 20 + (wlk s).2.1.2.1 - 20 = (wlk s).2.1.2.1 by omega]
          exact w4 c
        · show antS s 2 < s 2 + 1
          rw [a1.2.1]
          omega
        · show bit (wlk s).2.1.2.2.1 k = 0
          have l := @bit_lt (wlk s).2.1.2.2.1 k
          rcases (show bit (wlk s).2.1.2.2.1 k = 0 ∨ bit (wlk s).2.1.2.2.1 k = 1 by omega) with q | q
          · exact q
          · have := (w2.2.2.2.2.2.2.2.2.2 k q).1
            omega
      · exact old
    · exact old
theorem stp_n {s : Nat → Nat} (i : Inv s) (h2 : 2 ≤ s 0) : stp s 3 = s 3 + 1 ∧ s 5 ≤ stp s 5 ∧ s 6 ≤ stp s 6 := by
  obtain ⟨b1, b2, b3, b4, b5, b6⟩ := antS_at i h2
  have c5 : antS s 5 = _ := b5 1 (by omega)
  have c6 : antS s 6 = _ := b5 2 (by omega)
  rw [stp_hi i h2 (by omega), stp_hi i h2 (by omega), stp_hi i h2 (by omega), b4, c5, c6]
  exact ⟨rfl, Nat.le_add_right _ _, Nat.le_add_right _ _⟩
theorem lapA_p {s : Nat → Nat} (i : Inv s) (h2 : 2 ≤ s 0) (h : PJ 1 s) : ∀ n, PJ 1 (lapA s n) ∧ lapA s n 3 = s 3 + n ∧ s 5 ≤ lapA s n 5 ∧ s 6 ≤ lapA s n 6
  | 0 => ⟨h, rfl, Nat.le_refl _, Nat.le_refl _⟩
  | n + 1 => by
    obtain ⟨a, b⟩ := lapA_ok i h2 n
    obtain ⟨c1, c2, c3, c4⟩ := lapA_p i h2 h n
    have k : 2 ≤ lapA s n 0 := by rw [b.1.1]; exact h2
    obtain ⟨d1, d2, d3⟩ := stp_n a k
    exact ⟨stp_p a k c1, show stp (lapA s n) 3 = s 3 + (n + 1) by omega, show s 5 ≤ stp (lapA s n) 5 by omega, show s 6 ≤ stp (lapA s n) 6 by omega⟩
theorem lapS_p {s : Nat → Nat} (i : Inv s) (h2 : 2 ≤ s 0) (h : PJ 0 s) : PJ 0 (lapS s) ∧ lapS s 2 = s 2 + 1 ∧ lapS s 3 = s 3 + s 13 ∧ s 5 ≤ lapS s 5 ∧ s 6 ≤ lapS s 6 ∧ lapS s 13 = s 13 := by
  have h' : PJ 1 s := ⟨h.1, h.2.1, h.2.2.1, h.2.2.2.1, h.2.2.2.2.1, fun q => ⟨(h.2.2.2.2.2 q).1, by have := (h.2.2.2.2.2 q).2.1; omega, (h.2.2.2.2.2 q).2.2⟩⟩
  obtain ⟨c1, c2, c3, c4⟩ := lapA_p i h2 h' (s 13)
  obtain ⟨a, b⟩ := lapA_ok i h2 (s 13)
  have lo : ∀ j, j < 30 → j ≠ 2 → lapS s j = lapA s (s 13) j := fun j h1 h2 => by
    unfold lapS endS
    rw [upN_n h2, mapT_lo h1]
  have e2 : lapS s 2 = lapA s (s 13) 2 + 1 := by
    unfold lapS endS
    rw [upN_s]
  have wo : ∀ k w, w ≠ 3 → w < 6 → lapS s (30 + 6 * k + w) = lapA s (s 13) (30 + 6 * k + w) := fun k w h1 h2 => by
    unfold lapS endS
    rw [upN_n (by omega), mapT_w h1 h2]
  have l1 := a.1.2.1
  have hi : ∀ j, 126 ≤ j → j < 146 → lapS s j = lapA s (s 13) j := fun j h1 h2 => by
    unfold lapS endS
    rw [upN_n (by omega)]
    unfold mapT
    rw [if_neg (by omega)]
  have b2 := b.2.1
  have b13 := b.2.2.2 13 (by omega) (by omega)
  obtain ⟨d1, d2, d3, d4, d5, d6⟩ := c1
  have f1 : wnS (lapS s) = wnS (lapA s (s 13)) := sumTo_congr (fun k _ => wo k 5 (by omega) (by omega))
  have f2 : cmS (lapS s) = cmS (lapA s (s 13)) := sumTo_congr (fun k _ => hi _ (by omega) (by omega))
  have f3 : skS (lapS s) = skS (lapA s (s 13)) := sumTo_congr (fun k _ => hi _ (by omega) (by omega))
  refine ⟨⟨by rw [f1, f2]; exact d1, by rw [f3, lo 5 (by omega) (by omega)]; exact d2, by rw [lo 8 (by omega) (by omega)]; exact d3, by rw [hi 126 (by omega) (by omega)]; exact d4, fun p hp hq => ?_, fun h9 => ?_⟩, by omega, by rw [lo 3 (by omega) (by omega)]; exact c2, by rw [lo 5 (by omega) (by omega)]; exact c3, by rw [lo 6 (by omega) (by omega)]; exact c4, by rw [lo 13 (by omega) (by omega)]; exact b13⟩
  · rw [lo 0 (by omega) (by omega)] at hp
    rw [hi _ (by omega) (by omega), hi _ (by omega) (by omega)]
    exact d5 p hp hq
  · rw [lo 9 (by omega) (by omega)] at h9
    have hs := (a.2.2.2.2.1 h9).2.2.1
    rw [lo 10 (by omega) (by omega), lo (20 + _) (by omega) (by omega), lo 7 (by omega) (by omega), lo 11 (by omega) (by omega), lo 12 (by omega) (by omega), lo 1 (by omega) (by omega), e2]
    exact d6 h9
theorem lapN_p {s : Nat → Nat} (i : Inv s) (h2 : 2 ≤ s 0) (h : PJ 0 s) : ∀ n, PJ 0 (lapN s n) ∧ lapN s n 2 = s 2 + n ∧ lapN s n 3 = s 3 + n * s 13 ∧ s 5 ≤ lapN s n 5 ∧ s 6 ≤ lapN s n 6 ∧ lapN s n 13 = s 13
  | 0 => ⟨h, rfl, by rw [Nat.zero_mul]; rfl, Nat.le_refl _, Nat.le_refl _, rfl⟩
  | n + 1 => by
    obtain ⟨a, b, _⟩ := lapN_ok i h2 n
    obtain ⟨c1, c2, c3, c4, c5, c6⟩ := lapN_p i h2 h n
    obtain ⟨d1, d2, d3, d4, d5, d6⟩ := lapS_p a (by omega) c1
    have m : (n + 1) * s 13 = n * s 13 + s 13 := Nat.succ_mul _ _
    exact ⟨d1, show lapS (lapN s n) 2 = s 2 + (n + 1) by omega, show lapS (lapN s n) 3 = s 3 + (n + 1) * s 13 by rw [d3, c3, c6, m]; omega, show s 5 ≤ lapS (lapN s n) 5 by omega, show s 6 ≤ lapS (lapN s n) 6 by omega, d6.trans c6⟩
theorem oLap_p {s s' : Nat → Nat} {a r : Int32} (i : Inv s) (h : PJ 0 s) (o : oLap s a r s') : PJ 0 s' := by
  rcases o with ⟨n, e, n1, n5, ⟨h1, h2, h3⟩ | ⟨h1, h2, h3⟩⟩ | ⟨h0, e4, e5⟩
  · rw [h3]; exact h
  · rw [h3]; exact (lapN_p i h1 h n).1
  · rw [e5]; exact h
theorem oOne_p {s t : Nat → Nat} {c : Nat} {N : Nat → Nat} {r : Int32} (i : Inv s) (x : Ex s) (h : PJ 0 s) (o : oOne s c N r t) : PJ 0 t := by
  rcases o with ⟨_, o⟩ | ⟨_, o⟩ | ⟨_, o⟩ | ⟨_, o⟩ | ⟨_, o⟩ | ⟨_, o⟩
  · exact oPath_p i x h o
  · exact oClose_p i h o
  · exact oClose_p i h o
  · exact oFood_p h o
  · exact oSet_p i h o
  · exact oLap_p i h o
theorem oOne_2 {s t : Nat → Nat} {c : Nat} {N : Nat → Nat} {r : Int32} (i : Inv s) (h : PJ 0 s) (o : oOne s c N r t) : t 2 ≤ s 2 + 5 ∧ ¬ r = -1000000004 := by
  have big : ∀ a, a < 2 ^ 31 → ¬ nI a = -1000000004 := fun a ha => ne_nf ha
  have i1 := i.1.2.1
  rcases o with ⟨_, o⟩ | ⟨_, o⟩ | ⟨_, o⟩ | ⟨_, o⟩ | ⟨_, o⟩ | ⟨_, o⟩
  · rcases o with ⟨a, b, l, e1, e2, e3, ha, hb, hab, hl1, hl2, ⟨h1, h2, h3⟩ | ⟨h1, h2, h3⟩⟩ | ⟨h0, e4, e5⟩
    · rw [h3, h2]; exact ⟨by omega, by decide⟩
    · rw [h3, h2]
      refine ⟨?_, big _ (by omega)⟩
      unfold gPath
      rw [upN_n (by omega), upN_n (by omega), upN_n (by omega), upN_n (by omega), upN_n (by omega), upN_n (by omega), upN_n (by omega)]
      omega
    · rw [e5, e4]; exact ⟨by omega, by decide⟩
  · rcases o with ⟨k, e, hk, ⟨h1, h2, h3⟩ | ⟨h1, h2, h3⟩⟩ | ⟨h0, e4, e5⟩
    · rw [h3, h2]; exact ⟨by omega, by decide⟩
    · rw [h3, h2]
      have b := sumTo_le (f := opn (gClose s k 1)) (c := 1) (n := s 1) (fun k _ => by unfold opn; omega)
      refine ⟨?_, big _ (by omega)⟩
      unfold gClose
      rw [upN_n (by omega)]
      omega
    · rw [e5, e4]; exact ⟨by omega, by decide⟩
  · rcases o with ⟨k, e, hk, ⟨h1, h2, h3⟩ | ⟨h1, h2, h3⟩⟩ | ⟨h0, e4, e5⟩
    · rw [h3, h2]; exact ⟨by omega, by decide⟩
    · rw [h3, h2]
      have b := sumTo_le (f := opn (gClose s k 0)) (c := 1) (n := s 1) (fun k _ => by unfold opn; omega)
      refine ⟨?_, big _ (by omega)⟩
      unfold gClose
      rw [upN_n (by omega)]
      omega
    · rw [e5, e4]; exact ⟨by omega, by decide⟩
  · rcases o with ⟨k, e, hk, h0, ⟨h1, h2, h3⟩ | ⟨h1, h2, h3⟩⟩ | ⟨h0, e4, e5⟩
    · rw [h3, h2]; exact ⟨by omega, by decide⟩
    · rw [h3, h2]
      have f := i.2.2.1.2.1
      refine ⟨?_, big _ (by omega)⟩
      unfold gFood
      rw [upN_n (by omega), upN_n (by omega)]
      omega
    · rw [e5, e4]; exact ⟨by omega, by decide⟩
  · rcases o with ⟨k, v, e, hk, e2, v1, v2, h2, h3⟩ | ⟨h0, e4, e5⟩
    · rw [h3, h2]
      have b : s (13 + k) < 2 ^ 31 := by
        have q := i.2.1
        unfold sOk at q
        rcases (show k = 0 ∨ k = 1 ∨ k = 2 ∨ k = 3 ∨ k = 4 ∨ k = 5 ∨ k = 6 by omega) with c | c | c | c | c | c | c <;> subst c <;> simp only [Nat.reduceAdd] <;> omega
      refine ⟨?_, big _ b⟩
      unfold gSet
      rw [upN_n (by omega)]
      omega
    · rw [e5, e4]; exact ⟨by omega, by decide⟩
  · rcases o with ⟨n, e, n1, n5, ⟨h1, h2, h3⟩ | ⟨h1, h2, h3⟩⟩ | ⟨h0, e4, e5⟩
    · rw [h3, h2]; exact ⟨by omega, by decide⟩
    · rw [h3, h2]
      have q := lapN_ok i h1 n
      rw [(lapN_p i h1 h n).2.1]
      exact ⟨by omega, big _ (by omega)⟩
    · rw [e5, e4]; exact ⟨by omega, by decide⟩
theorem num_up {T : Nat → Nat} {len p : Nat} (h : dg T len p = 1) : p + 1 ≤ (num T len 4 p 0).1 := by
  rw [show num T len 4 p 0 = if dg T len p = 1 then num T len 3 (p + 1) (10 * 0 + T p - 48) else (p, 0) from rfl, if_pos h]
  exact num_ge 3 (p + 1) _
theorem rdn_up {T : Nat → Nat} {len : Nat} : ∀ j k p N, (rdn T len j k p N).1 = 1 → p + j ≤ (rdn T len j k p N).2.1
  | 0, k, p, N, _ => Nat.le_refl _
  | j + 1, k, p, N, h => by
    unfold rdn at h ⊢
    by_cases c : k ≠ 0 ∧ chr T len p 44 = 0
    · rw [if_pos c] at h
      exact absurd h (show ¬ 0 = 1 by decide)
    · rw [if_neg c] at h ⊢
      by_cases c2 : dg T len (if k = 0 then p else p + 1) = 1
      · rw [if_pos c2] at h ⊢
        have ih := rdn_up j _ _ _ h
        have u := num_up c2
        have v : p ≤ (if k = 0 then p else p + 1) := by split <;> omega
        omega
      · rw [if_neg c2] at h
        exact absurd h (show ¬ 0 = 1 by decide)
theorem pf_up {T : Nat → Nat} {len p : Nat} {N : Nat → Nat} (h : (pf T len p N).1 = 1) : p + 3 ≤ (pf T len p N).2.1 := by
  unfold pf at h ⊢
  split
  · rename_i c
    rw [if_pos c] at h
    exact absurd h (show ¬ 0 = 1 by decide)
  · rename_i c
    rw [if_neg c] at h
    split
    · rename_i c2
      rw [if_pos c2] at h
      exact absurd h (show ¬ 0 = 1 by decide)
    · rename_i c2
      rw [if_neg c2] at h
      have u := rdn_up _ _ _ _ h
      show p + 3 ≤ (rdn T len (many (T p)) 0 (p + 1) N).2.1 + (rdn T len (many (T p)) 0 (p + 1) N).1
      have h' : (rdn T len (many (T p)) 0 (p + 1) N).1 = 1 := h
      omega
/-- what a text's run tells -/
theorem Run_p {T : Nat → Nat} {len : Nat} : ∀ (f : Nat) (s : Nat → Nat) (p d : Nat) (u : Nat × Nat × Int32 × Nat) (t : Nat → Nat), Inv s → Ex s → PJ 0 s → p ≤ len → 3 * d ≤ p → Run T len f s p d u t → PJ 0 t ∧ t 2 ≤ s 2 + 5 * f ∧ (u.1 = 0 → 3 * u.2.2.2 ≤ len) ∧ (u.1 ≠ 0 → u.2.1 < len) ∧ (u.1 = 1 → ∃ q, q ≤ len - u.2.1 ∧ u.2.2.1 = nI q) ∧ (u.1 = 2 → er u.2.2.1 ∧ ¬ u.2.2.1 = -1000000004)
  | 0, s, p, d, u, t, _, _, _, _, _, h => h.elim
  | f + 1, s, p, d, u, t, i, x, pj, hp, hd, h => by
    rcases h with ⟨h1, h2, h3⟩ | ⟨h1, h2, h3, h4⟩ | ⟨h1, h2, r, s1, o, ⟨h3, h4, h5⟩ | ⟨h3, h4⟩⟩
    · rw [h3, h2]
      exact ⟨pj, by omega, fun _ => show 3 * d ≤ len by omega, fun q => absurd rfl q, fun q => absurd q (show ¬ 0 = 1 by decide), fun q => absurd q (show ¬ 0 = 2 by decide)⟩
    · rw [h4, h3]
      obtain ⟨k1, k2, k3, k4⟩ := pf_ok (T := T) (N := N0) h1
      exact ⟨pj, by omega, fun q => absurd q (show ¬ 1 = 0 by decide), fun _ => h1, fun _ => ⟨_, show (pf T len p N0).2.1 - p ≤ len - p by omega, rfl⟩, fun q => absurd q (show ¬ 1 = 2 by decide)⟩
    · rw [h5, h4]
      obtain ⟨o1, o2⟩ := oOne_2 i pj o
      exact ⟨oOne_p i x pj o, by omega, fun q => absurd q (show ¬ 2 = 0 by decide), fun _ => h1, fun q => absurd q (show ¬ 2 = 1 by decide), fun _ => ⟨h3, o2⟩⟩
    · obtain ⟨k1, k2, k3, k4⟩ := pf_ok (T := T) (N := N0) h1
      have k5 := pf_up (T := T) h2
      obtain ⟨o1, o2⟩ := oOne_2 i pj o
      obtain ⟨r1, r2, r3⟩ := Run_p f s1 _ (d + 1) u t (oOne_inv i o).1 (oOne_x i x o) (oOne_p i x pj o) k3 (by omega) h4
      exact ⟨r1, by omega, r3⟩
