/-! the zeros of paths to come, and the sum of the ants, are kept -/
theorem Ex_e {s t : Nat → Nat} (e : e146 s t) (x : Ex s) : Ex t := by
  refine ⟨by rw [e 3 (by omega), e 4 (by omega), e 5 (by omega), e 6 (by omega)]; exact x.1, fun k h1 h2 => ?_⟩
  rw [e 1 (by omega)] at h1
  rw [e _ (by omega), e _ (by omega)]
  exact x.2 k h1 h2
/-- a state that is the same where it counts -/
theorem Ex_k {s t : Nat → Nat} (x : Ex s) (h : t 3 = s 3 ∧ t 4 = s 4 ∧ t 5 = s 5 ∧ t 6 = s 6) (h1 : s 1 ≤ t 1) (hk : ∀ k, t 1 ≤ k → k < 16 → t (30 + 6 * k + 4) = s (30 + 6 * k + 4) ∧ t (30 + 6 * k + 5) = s (30 + 6 * k + 5)) : Ex t := by
  obtain ⟨a, b, c, d⟩ := h
  refine ⟨by rw [a, b, c, d]; exact x.1, fun k h2 h3 => ?_⟩
  obtain ⟨e, f⟩ := hk k h2 h3
  rw [e, f]
  exact x.2 k (by omega) h3
theorem oPlace_x {s s' : Nat → Nat} {r : Int32} (x : Ex s) (o : oPlace s r s') : Ex s' := by
  rcases o with ⟨h1, h2, h3⟩ | ⟨h1, h2, h3⟩
  · rw [h3]; exact x
  · rw [h3]
    exact Ex_k x ⟨rfl, rfl, rfl, rfl⟩ (Nat.le_refl _) (fun k _ _ => ⟨upN_n (by omega), upN_n (by omega)⟩)
theorem oPath_x {s s' : Nat → Nat} {a b c r : Int32} (x : Ex s) (o : oPath s a b c r s') : Ex s' := by
  rcases o with ⟨a, b, l, e1, e2, e3, ha, hb, hab, hl1, hl2, ⟨h1, h2, h3⟩ | ⟨h1, h2, h3⟩⟩ | ⟨h, e4, e5⟩
  · rw [h3]; exact x
  · rw [h3]
    have lo : ∀ j, j < 30 → j ≠ 1 → gPath s a b l j = s j := fun j h h' => by
      unfold gPath
      rw [upN_n h', upN_n (by omega), upN_n (by omega), upN_n (by omega), upN_n (by omega), upN_n (by omega), upN_n (by omega)]
    have old : ∀ q w, q ≠ s 1 → w < 6 → gPath s a b l (30 + 6 * q + w) = s (30 + 6 * q + w) := fun q w h h' => by
      unfold gPath
      rw [upN_n (by omega), upN_n (by omega), upN_n (by omega), upN_n (by omega), upN_n (by omega), upN_n (by omega), upN_n (by omega)]
    have e1 : gPath s a b l 1 = s 1 + 1 := upN_s
    exact Ex_k x ⟨lo 3 (by omega) (by omega), lo 4 (by omega) (by omega), lo 5 (by omega) (by omega), lo 6 (by omega) (by omega)⟩ (by omega) (fun k h _ => ⟨old k 4 (by omega) (by omega), old k 5 (by omega) (by omega)⟩)
  · rw [e5]; exact x
theorem oClose_x {s s' : Nat → Nat} {a r : Int32} {c : Nat} (x : Ex s) (o : oClose s a c r s') : Ex s' := by
  rcases o with ⟨k, e, hk, ⟨h1, h2, h3⟩ | ⟨h1, h2, h3⟩⟩ | ⟨h, e4, e5⟩
  · rw [h3]; exact x
  · rw [h3]
    have n : ∀ j, j ≠ 30 + 6 * k + 4 → gClose s k c j = s j := fun j h => upN_n h
    have e1 := n 1 (by omega)
    exact Ex_k x ⟨n 3 (by omega), n 4 (by omega), n 5 (by omega), n 6 (by omega)⟩ (by omega) (fun q h _ => ⟨n _ (by omega), n _ (by omega)⟩)
  · rw [e5]; exact x
theorem oFood_x {s s' : Nat → Nat} {a r : Int32} (x : Ex s) (o : oFood s a r s') : Ex s' := by
  rcases o with ⟨k, e, hk, h0, ⟨h1, h2, h3⟩ | ⟨h1, h2, h3⟩⟩ | ⟨h, e4, e5⟩
  · rw [h3]; exact x
  · rw [h3]
    have n : ∀ j, j ≠ 7 → j ≠ 9 → gFood s k j = s j := fun j h h' => by
      unfold gFood
      rw [upN_n h', upN_n h]
    have e1 := n 1 (by omega) (by omega)
    exact Ex_k x ⟨n 3 (by omega) (by omega), n 4 (by omega) (by omega), n 5 (by omega) (by omega), n 6 (by omega) (by omega)⟩ (by omega) (fun q h _ => ⟨n _ (by omega) (by omega), n _ (by omega) (by omega)⟩)
  · rw [e5]; exact x
theorem oSet_x {s s' : Nat → Nat} {a b r : Int32} (x : Ex s) (o : oSet s a b r s') : Ex s' := by
  rcases o with ⟨k, v, e, hk, e2, v1, v2, h2, h3⟩ | ⟨h, e4, e5⟩
  · rw [h3]
    have n : ∀ j, j < 13 ∨ 20 ≤ j → gSet s k v j = s j := fun j h => upN_n (by omega)
    have e1 := n 1 (by omega)
    exact Ex_k x ⟨n 3 (by omega), n 4 (by omega), n 5 (by omega), n 6 (by omega)⟩ (by omega) (fun q h _ => ⟨n _ (by omega), n _ (by omega)⟩)
  · rw [e5]; exact x
theorem oForget_x {s s' : Nat → Nat} {r : Int32} (x : Ex s) (o : oForget s r s') : Ex s' := by
  obtain ⟨h1, h2⟩ := o
  have lo : ∀ j, j < 30 → j ≠ 9 → s' j = s j := fun j h h' => by rw [h2, mapT_lo h, upN_n h']
  have hi : ∀ k w, w ≠ 3 → w < 6 → s' (30 + 6 * k + w) = s (30 + 6 * k + w) := fun k w h h' => by rw [h2, mapT_w h h', upN_n (by omega)]
  have e1 := lo 1 (by omega) (by omega)
  exact Ex_k x ⟨lo 3 (by omega) (by omega), lo 4 (by omega) (by omega), lo 5 (by omega) (by omega), lo 6 (by omega) (by omega)⟩ (by omega) (fun q h _ => ⟨hi q 4 (by omega) (by omega), hi q 5 (by omega) (by omega)⟩)
theorem stp_x {s : Nat → Nat} (i : Inv s) (h2 : 2 ≤ s 0) (x : Ex s) : Ex (stp s) := by
  obtain ⟨w1, w2, w3, w4⟩ := wlk_ok i h2
  have xa : Ex (antS s) := by
    unfold antS
    generalize hy : (wlk s).2.2 = y at *
    generalize hh : hr (wlk s).2.1 = h
    have m : ∀ j, j < 7 → mkS s (wlk s).1 (wlk s).2.1.2.2.1 (wlk s).2.1.2.2.2.1 j = s j := fun j hj => mk_lo (by omega) (by omega)
    have f3 : fin (mkS s (wlk s).1 (wlk s).2.1.2.2.1 (wlk s).2.1.2.2.2.1) h y 3 = s 3 + 1 := by
      unfold fin
      rw [if_neg (by omega), if_pos rfl, m 3 (by omega)]
    have fe : ∀ j, j < 3 → fin (mkS s (wlk s).1 (wlk s).2.1.2.2.1 (wlk s).2.1.2.2.2.1) h y (4 + j) = s (4 + j) + (if j = y then 1 else 0) := fun j hj => by
      unfold fin
      rw [if_neg (by omega), if_neg (by omega), m (4 + j) (by omega)]
      by_cases c : j = y
      · rw [if_pos (by omega), if_pos c]
      · rw [if_neg (by omega), if_neg c]; rfl
    refine ⟨?_, fun k h1 h3 => ?_⟩
    · have e0 := fe 0 (by omega)
      have e1 := fe 1 (by omega)
      have e2 := fe 2 (by omega)
      have x1 := x.1
      rw [f3, e0, e1, e2]
      rcases (show y = 0 ∨ y = 1 ∨ y = 2 by omega) with c | c | c <;> subst c <;> simp <;> omega
    · have e1 : fin (mkS s (wlk s).1 (wlk s).2.1.2.2.1 (wlk s).2.1.2.2.2.1) h y 1 = s 1 := by rw [fin_n (by omega) (by omega) w3, m 1 (by omega)]
      rw [e1] at h1
      have z := x.2 k h1 h3
      rw [fin_n (by omega) (by omega) w3, fin_n (by omega) (by omega) w3]
      refine ⟨?_, ?_⟩
      · rw [eqg_mk.2.2 k 4 (by omega) h3]; exact z.1
      · unfold mkS
        rw [if_neg (by omega), if_pos (by omega), show (30 + 6 * k + 5 - 30) / 6 = k by omega, z.2]
        have hb : bit (wlk s).2.1.2.2.1 k = 0 := by
          have l := @bit_lt (wlk s).2.1.2.2.1 k
          rcases (show bit (wlk s).2.1.2.2.1 k = 0 ∨ bit (wlk s).2.1.2.2.1 k = 1 by omega) with q | q
          · exact q
          · have := (w2.2.2.2.2.2.2.2.2.2 k q).1
            omega
        rw [hb]
  unfold stp
  split
  · unfold bst
    split
    · have hn : (wlk s).2.1.2.1 + 1 ≤ 10 := by have := w2.1; omega
      have n : ∀ j, j < 9 ∨ 30 ≤ j → isb (antS s) (wlk s).2.1 ((wlk s).2.1.2.1 + 1) j = antS s j := fun j h => isb_n hn (by omega)
      have e1 := n 1 (by omega)
      exact Ex_k xa ⟨n 3 (by omega), n 4 (by omega), n 5 (by omega), n 6 (by omega)⟩ (by omega) (fun q h _ => ⟨n _ (by omega), n _ (by omega)⟩)
    · exact xa
  · exact xa
theorem lapA_x {s : Nat → Nat} (i : Inv s) (h2 : 2 ≤ s 0) (x : Ex s) : ∀ n, Ex (lapA s n)
  | 0 => x
  | n + 1 => by
    obtain ⟨a, b⟩ := lapA_ok i h2 n
    exact stp_x a (by rw [b.1.1]; exact h2) (lapA_x i h2 x n)
theorem lapS_x {s : Nat → Nat} (i : Inv s) (h2 : 2 ≤ s 0) (x : Ex s) : Ex (lapS s) := by
  have xa := lapA_x i h2 x (s 13)
  have lo : ∀ j, j < 30 → j ≠ 2 → lapS s j = lapA s (s 13) j := fun j h1 h2 => by
    unfold lapS endS
    rw [upN_n h2, mapT_lo h1]
  have wo : ∀ k w, w ≠ 3 → w < 6 → lapS s (30 + 6 * k + w) = lapA s (s 13) (30 + 6 * k + w) := fun k w h1 h2 => by
    unfold lapS endS
    rw [upN_n (by omega), mapT_w h1 h2]
  have e1 := lo 1 (by omega) (by omega)
  exact Ex_k xa ⟨lo 3 (by omega) (by omega), lo 4 (by omega) (by omega), lo 5 (by omega) (by omega), lo 6 (by omega) (by omega)⟩ (by omega) (fun q h _ => ⟨wo q 4 (by omega) (by omega), wo q 5 (by omega) (by omega)⟩)
theorem lapN_x {s : Nat → Nat} (i : Inv s) (h2 : 2 ≤ s 0) (x : Ex s) : ∀ n, Ex (lapN s n)
  | 0 => x
  | n + 1 => by
    obtain ⟨a, b, _⟩ := lapN_ok i h2 n
    exact lapS_x a (by omega) (lapN_x i h2 x n)
theorem oLap_x {s s' : Nat → Nat} {a r : Int32} (i : Inv s) (x : Ex s) (o : oLap s a r s') : Ex s' := by
  rcases o with ⟨n, e, n1, n5, ⟨h1, h2, h3⟩ | ⟨h1, h2, h3⟩⟩ | ⟨h, e4, e5⟩
  · rw [h3]; exact x
  · rw [h3]; exact lapN_x i h1 x n
  · rw [e5]; exact x
theorem oOne_x {s t : Nat → Nat} {c : Nat} {N : Nat → Nat} {r : Int32} (i : Inv s) (x : Ex s) (o : oOne s c N r t) : Ex t := by
  rcases o with ⟨_, o⟩ | ⟨_, o⟩ | ⟨_, o⟩ | ⟨_, o⟩ | ⟨_, o⟩ | ⟨_, o⟩
  · exact oPath_x x o
  · exact oClose_x x o
  · exact oClose_x x o
  · exact oFood_x x o
  · exact oSet_x x o
  · exact oLap_x i x o
theorem Run_x {T : Nat → Nat} {len : Nat} : ∀ (f : Nat) (s : Nat → Nat) (p d : Nat) (u : Nat × Nat × Int32 × Nat) (t : Nat → Nat), Inv s → Ex s → Run T len f s p d u t → Ex t
  | 0, s, p, d, u, t, i, x, h => h.elim
  | f + 1, s, p, d, u, t, i, x, h => by
    rcases h with ⟨h1, h2, h3⟩ | ⟨h1, h2, h3, h4⟩ | ⟨h1, h2, r, s1, o, ⟨h3, h4, h5⟩ | ⟨h3, h4⟩⟩
    · rw [h3]; exact x
    · rw [h4]; exact x
    · rw [h5]; exact oOne_x i x o
    · exact Run_x f s1 _ (d + 1) u t (oOne_inv i o).1 (oOne_x i x o) h4
