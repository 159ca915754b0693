/-! what is kept besides: the counts agree, x is above 0, the best way ends at the food -/
theorem sumTo_z {f : Nat → Nat} {a : Nat} : ∀ {b : Nat}, a ≤ b → (∀ k, a ≤ k → k < b → f k = 0) → sumTo f b = sumTo f a
  | 0, h, _ => by
    have e : a = 0 := by omega
    rw [e]
  | b + 1, h, z => by
    by_cases c : a = b + 1
    · rw [c]
    · have ih := sumTo_z (f := f) (a := a) (b := b) (by omega) (fun k h1 h2 => z k h1 (by omega))
      have h2 := z b (by omega) (by omega)
      simp only [sumTo]
      omega
theorem sumTo_add {f g h : Nat → Nat} : ∀ {n : Nat}, (∀ k, k < n → f k = g k + h k) → sumTo f n = sumTo g n + sumTo h n
  | 0, _ => rfl
  | n + 1, e => by
    have ih := sumTo_add (f := f) (g := g) (h := h) (n := n) (fun k hk => e k (by omega))
    have h2 := e n (by omega)
    simp only [sumTo]
    omega
def wnS (s : Nat → Nat) : Nat := sumTo (fun k => s (30 + 6 * k + 5)) 16
def cmS (s : Nat → Nat) : Nat := sumTo (fun p => s (126 + 2 * p)) 10
def skS (s : Nat → Nat) : Nat := sumTo (fun p => s (127 + 2 * p)) 10
/-- the best way's end, its lap, its paths -/
def PBt (e : Nat) (s : Nat → Nat) : Prop := s 9 ≠ 0 → s (20 + s 10) = s 7 ∧ s 11 < s 2 + e ∧ ∀ k, s 1 ≤ k → bit (s 12) k = 0
theorem PBt_k {e : Nat} {s t : Nat → Nat} (h : PBt e s) (i : s 9 ≠ 0 → s 10 ≤ 9) (h9 : ∀ j, 9 ≤ j → j < 13 → t j = s j) (h20 : ∀ j, 20 ≤ j → j < 30 → t j = s j) (h7 : t 7 = s 7) (h2 : t 2 = s 2) (h1 : s 1 ≤ t 1) : PBt e t := fun c => by
  rw [h9 9 (by omega) (by omega)] at c
  have i' := i c
  obtain ⟨a, b, d⟩ := h c
  rw [h9 10 (by omega) (by omega), h9 11 (by omega) (by omega), h9 12 (by omega) (by omega), h20 (20 + s 10) (by omega) (by omega), h7, h2]
  exact ⟨a, b, fun k hk => d k (by omega)⟩
def PJ (e : Nat) (s : Nat → Nat) : Prop := wnS s = cmS s ∧ skS s = s 5 ∧ 0 < s 8 ∧ s 126 = 0 ∧ (∀ p, s 0 ≤ p → p < 10 → s (126 + 2 * p) = 0 ∧ s (127 + 2 * p) = 0) ∧ PBt e s
/-- a state that is the same in its counts -/
theorem PJ_k {e : Nat} {s t : Nat → Nat} (h : PJ e s) (h1 : ∀ k, k < 16 → t (30 + 6 * k + 5) = s (30 + 6 * k + 5)) (h2 : ∀ j, 126 ≤ j → j < 146 → t j = s j) (h5 : t 5 = s 5) (h8 : t 8 = s 8) (h0 : s 0 ≤ t 0) (hb : PBt e t) : PJ e t := by
  obtain ⟨a1, a2, a3, a4, a5, a6⟩ := h
  have e1 : wnS t = wnS s := sumTo_congr (fun k hk => h1 k hk)
  have e2 : cmS t = cmS s := sumTo_congr (fun k hk => h2 _ (by omega) (by omega))
  have e3 : skS t = skS s := sumTo_congr (fun k hk => h2 _ (by omega) (by omega))
  refine ⟨by rw [e1, e2]; exact a1, by rw [e3, h5]; exact a2, by rw [h8]; exact a3, by rw [h2 126 (by omega) (by omega)]; exact a4, fun p hp hq => ?_, hb⟩
  rw [h2 _ (by omega) (by omega), h2 _ (by omega) (by omega)]
  exact a5 p (by omega) hq
theorem oPlace_p {s s' : Nat → Nat} {r : Int32} (i : Inv s) (h : PJ 0 s) (o : oPlace s r s') : PJ 0 s' := by
  rcases o with ⟨h1, h2, h3⟩ | ⟨h1, h2, h3⟩
  · rw [h3]; exact h
  · rw [h3]
    have n : ∀ j, j ≠ 0 → upN s 0 (s 0 + 1) j = s j := fun j hj => upN_n hj
    have e0 : upN s 0 (s 0 + 1) 0 = s 0 + 1 := upN_s
    refine PJ_k h (fun k hk => n _ (by omega)) (fun j h1 h2 => n _ (by omega)) (n 5 (by omega)) (n 8 (by omega)) (by omega) (PBt_k h.2.2.2.2.2 (fun c => (i.2.2.2.2.1 c).2.2.1) (fun j h1 h2 => n j (by omega)) (fun j h1 h2 => n j (by omega)) (n 7 (by omega)) (n 2 (by omega)) (by rw [n 1 (by omega)]; exact Nat.le_refl _))
theorem oPath_p {s s' : Nat → Nat} {a b c r : Int32} (i : Inv s) (x : Ex s) (h : PJ 0 s) (o : oPath s a b c r s') : PJ 0 s' := by
  rcases o with ⟨a, b, l, e1, e2, e3, ha, hb, hab, hl1, hl2, ⟨h1, h2, h3⟩ | ⟨h1, h2, h3⟩⟩ | ⟨h0, e4, e5⟩
  · rw [h3]; exact h
  · rw [h3]
    have lo : ∀ j, j < 30 → j ≠ 1 → gPath s a b l j = s j := fun j h h' => by
      unfold gPath
      rw [upN_n h', upN_n (by omega), upN_n (by omega), upN_n (by omega), upN_n (by omega), upN_n (by omega), upN_n (by omega)]
    have hi : ∀ j, 126 ≤ j → gPath s a b l j = s j := fun j h => by
      unfold gPath
      rw [upN_n (by omega), upN_n (by omega), upN_n (by omega), upN_n (by omega), upN_n (by omega), upN_n (by omega), upN_n (by omega)]
    have old : ∀ q, gPath s a b l (30 + 6 * q + 5) = if q = s 1 then 0 else s (30 + 6 * q + 5) := fun q => by
      unfold gPath
      rw [upN_n (by omega)]
      by_cases c : q = s 1
      · rw [if_pos c, c, upN_s]
      · rw [if_neg c, upN_n (by omega), upN_n (by omega), upN_n (by omega), upN_n (by omega), upN_n (by omega), upN_n (by omega)]
    refine PJ_k h (fun k hk => ?_) (fun j h1 h2 => hi j h1) (lo 5 (by omega) (by omega)) (lo 8 (by omega) (by omega)) (by rw [lo 0 (by omega) (by omega)]; exact Nat.le_refl _) (PBt_k h.2.2.2.2.2 (fun c => (i.2.2.2.2.1 c).2.2.1) (fun j h1 h2 => lo j (by omega) (by omega)) (fun j h1 h2 => lo j (by omega) (by omega)) (lo 7 (by omega) (by omega)) (lo 2 (by omega) (by omega)) (by rw [show gPath s a b l 1 = s 1 + 1 from upN_s]; omega))
    · rw [old]
      split
      · rename_i c
        rw [c, (x.2 (s 1) (Nat.le_refl _) h1).2]
      · rfl
  · rw [e5]; exact h
theorem oClose_p {s s' : Nat → Nat} {a r : Int32} {c : Nat} (i : Inv s) (h : PJ 0 s) (o : oClose s a c r s') : PJ 0 s' := by
  rcases o with ⟨k, e, hk, ⟨h1, h2, h3⟩ | ⟨h1, h2, h3⟩⟩ | ⟨h0, e4, e5⟩
  · rw [h3]; exact h
  · rw [h3]
    have k16 := i.1.2.1
    have n : ∀ j, j ≠ 30 + 6 * k + 4 → gClose s k c j = s j := fun j h => upN_n h
    refine PJ_k h (fun q hq => n _ (by omega)) (fun j h1 h2 => n _ (by omega)) (n 5 (by omega)) (n 8 (by omega)) (by rw [n 0 (by omega)]; exact Nat.le_refl _) (PBt_k h.2.2.2.2.2 (fun c => (i.2.2.2.2.1 c).2.2.1) (fun j h1 h2 => n j (by omega)) (fun j h1 h2 => n j (by omega)) (n 7 (by omega)) (n 2 (by omega)) (by rw [n 1 (by omega)]; exact Nat.le_refl _))
  · rw [e5]; exact h
theorem oFood_p {s s' : Nat → Nat} {a r : Int32} (h : PJ 0 s) (o : oFood s a r s') : PJ 0 s' := by
  rcases o with ⟨k, e, hk, h0, ⟨h1, h2, h3⟩ | ⟨h1, h2, h3⟩⟩ | ⟨h0, e4, e5⟩
  · rw [h3]; exact h
  · rw [h3]
    have n : ∀ j, j ≠ 7 → j ≠ 9 → gFood s k j = s j := fun j h h' => by
      unfold gFood
      rw [upN_n h', upN_n h]
    refine PJ_k h (fun q hq => n _ (by omega) (by omega)) (fun j h1 h2 => n _ (by omega) (by omega)) (n 5 (by omega) (by omega)) (n 8 (by omega) (by omega)) (by rw [n 0 (by omega) (by omega)]; exact Nat.le_refl _) (fun h9 => absurd (show gFood s k 9 = 0 from upN_s) h9)
  · rw [e5]; exact h
theorem oSet_p {s s' : Nat → Nat} {a b r : Int32} (i : Inv s) (h : PJ 0 s) (o : oSet s a b r s') : PJ 0 s' := by
  rcases o with ⟨k, v, e, hk, e2, v1, v2, h2, h3⟩ | ⟨h0, e4, e5⟩
  · rw [h3]
    have n : ∀ j, j < 13 ∨ 20 ≤ j → gSet s k v j = s j := fun j h => upN_n (by omega)
    refine PJ_k h (fun q hq => n _ (by omega)) (fun j h1 h2 => n _ (by omega)) (n 5 (by omega)) (n 8 (by omega)) (by rw [n 0 (by omega)]; exact Nat.le_refl _) (PBt_k h.2.2.2.2.2 (fun c => (i.2.2.2.2.1 c).2.2.1) (fun j h1 h2 => n j (by omega)) (fun j h1 h2 => n j (by omega)) (n 7 (by omega)) (n 2 (by omega)) (by rw [n 1 (by omega)]; exact Nat.le_refl _))
  · rw [e5]; exact h
theorem oForget_p {s s' : Nat → Nat} {r : Int32} (i : Inv s) (h : PJ 0 s) (o : oForget s r s') : PJ 0 s' := by
  obtain ⟨h1, h2⟩ := o
  have lo : ∀ j, j < 30 → j ≠ 9 → s' j = s j := fun j h h' => by rw [h2, mapT_lo h, upN_n h']
  have hi : ∀ k w, w ≠ 3 → w < 6 → s' (30 + 6 * k + w) = s (30 + 6 * k + w) := fun k w h h' => by rw [h2, mapT_w h h', upN_n (by omega)]
  have h9 : s' 9 = 0 := by rw [h2, mapT_lo (by omega), upN_s]
  have i1 := i.1.2.1
  have hk : ∀ j, 126 ≤ j → j < 146 → s' j = s j := fun j a b => by
    rw [h2]
    unfold mapT
    rw [if_neg (by omega), upN_n (by omega)]
  exact PJ_k h (fun k _ => hi k 5 (by omega) (by omega)) hk (lo 5 (by omega) (by omega)) (lo 8 (by omega) (by omega)) (by rw [lo 0 (by omega) (by omega)]; exact Nat.le_refl _) (fun q => absurd h9 q)
/-- so many paths as steps -/
def IA (W : (Nat × Nat × Nat × Nat × (Nat → Nat))) : Prop := sumTo (bit W.2.2.1) 16 = W.2.1
theorem IA_0 : IA W0 := by
  show sumTo (bit 0) 16 = 0
  decide
theorem IA_adv {s : Nat → Nat} {W : (Nat × Nat × Nat × Nat × (Nat → Nat))} {k : Nat} (g : Gph s) (i : IW s W) (a : IA W) (hk : k < s 1) (hc : cg s (hr W) W.2.2.2.1 k = 1) : IA (adv s W k) := by
  obtain ⟨c1, c2, c3, c4⟩ := cg_1 g hk hc
  have k16 := g.2.1
  have h0 : bit W.2.2.1 k = 0 := by
    have l := @bit_lt W.2.2.1 k
    rcases (show bit W.2.2.1 k = 0 ∨ bit W.2.2.1 k = 1 by omega) with q | q
    · exact q
    · obtain ⟨q1, q2, q3⟩ := i.2.2.2.2.2.2.2.2.2 k q
      rcases c4 with ⟨e1, e2⟩ | ⟨e1, e2⟩
      · rw [e2, q3] at c3; omega
      · rw [e2, q2] at c3; omega
  show sumTo (bit (W.2.2.1 ||| 2 ^ k)) 16 = W.2.1 + 1
  have e := sumTo_bump (f := bit (W.2.2.1 ||| 2 ^ k)) (g := bit W.2.2.1) (t := k) (n := 16) (by omega) (fun j hj => by rw [bit_or, if_neg hj]) (by rw [bit_or, if_pos rfl, h0])
  rw [e]
  exact congrArg (· + 1) a
theorem nx_pos {x : Nat} (h : 0 < x) (h2 : x < 2147483647) : 0 < nx x := by
  unfold nx
  have h3 : ¬ x * 16807 % 2147483647 = 0 := fun e => by
    have d : 2147483647 ∣ x * 16807 := Nat.dvd_of_mod_eq_zero e
    have c : Nat.Coprime 2147483647 16807 := by decide +kernel
    have d2 : 2147483647 ∣ x := Nat.Coprime.dvd_of_dvd_mul_right c d
    have := Nat.le_of_dvd h d2
    omega
  omega
theorem walk_p {s : Nat → Nat} (g : Gph s) : ∀ (n x : Nat) (W : (Nat × Nat × Nat × Nat × (Nat → Nat))), W.2.1 + n = 10 → IW s W → IA W → x < 2147483647 → 0 < x → W.1 ≤ s 19 → 0 < (walk s n x W).1 ∧ IA (walk s n x W).2.1 ∧ (walk s n x W).2.1.1 ≤ s 19 ∧ ((walk s n x W).2.2 ≠ 0 → hr (walk s n x W).2.1 ≠ s 7)
  | 0, x, W, hn, i, _, _, _, _ => by have := i.1; omega
  | n + 1, x, W, hn, i, a, hx, h0, h19 => by
    unfold walk
    by_cases c1 : hr W = s 7
    · rw [if_pos c1]; exact ⟨h0, a, h19, fun q => absurd rfl q⟩
    · rw [if_neg c1]
      by_cases c2 : sm s (hr W) W.2.2.2.1 = 0
      · rw [if_pos c2]; exact ⟨h0, a, h19, fun _ => c1⟩
      · rw [if_neg c2]
        by_cases c3 : s 19 < W.1 + s (30 + 6 * pkx s x W + 2)
        · rw [if_pos c3]; exact ⟨nx_pos h0 hx, a, h19, fun _ => c1⟩
        · rw [if_neg c3]
          obtain ⟨p1, p2⟩ := pkx_ok (x := x) c2
          have ia := (IW_adv g i p1 p2).2
          exact walk_p g n (nx x) _ (by show W.2.1 + 1 + n = 10; omega) ia (IA_adv g i a p1 p2) nx_lt (nx_pos h0 hx) (by show W.1 + s (30 + 6 * pkx s x W + 2) ≤ s 19; omega)
theorem wlk_p {s : Nat → Nat} (i : Inv s) (h2 : 2 ≤ s 0) (h8 : 0 < s 8) : 0 < (wlk s).1 ∧ IA (wlk s).2.1 ∧ (wlk s).2.1.1 ≤ s 19 ∧ ((wlk s).2.2 ≠ 0 → hr (wlk s).2.1 ≠ s 7) :=
  walk_p i.1 10 (s 8) W0 rfl (IW_0 (by omega)) IA_0 i.2.2.2.1 h8 (Nat.zero_le _)
