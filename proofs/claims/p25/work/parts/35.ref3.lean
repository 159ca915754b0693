def gts (s : Nat → Nat) : Nat → Nat
  | 0 => 0
  | n + 1 => if gts s n < s (30 + 6 * n + 3) then s (30 + 6 * n + 3) else gts s n
theorem gts_le {s : Nat → Nat} (g : Gph s) : ∀ n, n ≤ s 1 → gts s n ≤ 9999
  | 0, _ => Nat.zero_le _
  | n + 1, hn => by
    have ih := gts_le g n (by omega)
    have p := g.2.2 n (by omega)
    unfold pOk at p
    unfold gts
    split <;> omega
def aCount (s : Nat → Nat) (n len w : Nat) : Nat := if 20 ≤ w then s (w - 7) else if w = 0 then s 0 else if w = 1 then s 1 else if w = 2 then sumTo (opn s) (s 1) else if w < 8 then s (w - 1) else if w = 8 then sumTo (trl s) (s 1) else if w = 9 then gts s (s 1) else if w = 10 then s 7 else if w = 11 then s 8 else if w = 12 then n else len
def kOk (w : Nat) : Prop := w < 14 ∨ 20 ≤ w ∧ w < 27
def rCount (s : Nat → Nat) (n len : Nat) (x r : Int32) : Prop := (∃ w, kOk w ∧ x = nI w ∧ r = nI (aCount s n len w)) ∨ (¬ ∃ w, kOk w ∧ x = nI w) ∧ r = -1000000001
theorem rCount_ex {s : Nat → Nat} {n len : Nat} (x : Int32) : ∃ r, rCount s n len x r := by
  by_cases h : ∃ w, kOk w ∧ x = nI w
  · obtain ⟨w, hw, e⟩ := h
    exact ⟨_, Or.inl ⟨w, hw, e, rfl⟩⟩
  · exact ⟨_, Or.inr ⟨h, rfl⟩⟩
theorem inI_o {w a b : Nat} (hw : w < 2 ^ 31) (ha : a < 2 ^ 31) (hb : b < 2 ^ 31) (h : w < a ∨ b < w) : inI (nI w) (nI a) (nI b) = nI 0 := by
  unfold inI
  by_cases c : w < a
  · rw [if_pos (nI_lt c ha)]
  · rw [if_neg (nI_nlt (by omega) (by omega)), if_pos (nI_lt (by omega) (by omega))]
/-! what the reference holds: the state, the states of the history, the text -/
def RfL (M : Mem) (s : Nat → Nat) (H : Nat → Nat → Nat) (n len : Nat) (T : Nat → Nat) : Prop := M 107 = nf s ∧ M 106 4 = nI n ∧ (∀ i j, i < n → j < 146 → M 110 (146 * i + j) = nI (H i j)) ∧ M 106 6 = nI len ∧ ∀ j, j < len → M 111 j = nI (T j)
theorem RfL_q {M M' : Mem} {s : Nat → Nat} {H : Nat → Nat → Nat} {n len : Nat} {T : Nat → Nat} (h : RfL M s H n len T) (q : RQ M M' s) : ∃ s', e146 s s' ∧ RfL M' s' H n len T := by
  obtain ⟨⟨s', e, e7⟩, f, f4, f6⟩ := q
  obtain ⟨h1, h2, h3, h4, h5⟩ := h
  refine ⟨s', e, e7, by rw [f4, h2], fun i j hi hj => by rw [f 110 (by omega)]; exact h3 i j hi hj, by rw [f6, h4], fun j hj => by rw [f 111 (by omega)]; exact h5 j hj⟩
def pH (H : Nat → Nat → Nat) (n : Nat) (s : Nat → Nat) : Nat → Nat → Nat := if n < 4 then (fun i => if i = n then s else H i) else (fun i => if i = 3 then s else H (i + 1))
def pN (n : Nat) : Nat := if n < 4 then n + 1 else 4
/-- what a change leaves -/
def RC (M M' : Mem) (s s' : Nat → Nat) (H : Nat → Nat → Nat) (n len : Nat) (T : Nat → Nat) (r : Int32) : Prop := (er r → ∃ s'', e146 s s'' ∧ RfL M' s'' H n len T) ∧ (nr r → RfL M' s' (pH H n s) (pN n) len T) ∧ ∀ o, o < 106 ∨ 116 < o → M' o = M o
theorem er_nr {r : Int32} (h : er r) (h2 : nr r) : False := by
  unfold nr at h2
  rcases h with h | h | h | h <;> subst h <;> revert h2 <;> decide
/-- an order that changes, as the reference does it -/
theorem RfL_up {M : Mem} {s s' : Nat → Nat} {H : Nat → Nat → Nat} {n len : Nat} {T : Nat → Nat} (h : RfL M s H n len T) {M' : Mem} (e : M' 107 = nf s') (f : ∀ o, o = 110 ∨ o = 111 → M' o = M o) (f4 : M' 106 4 = M 106 4) (f6 : M' 106 6 = M 106 6) : RfL M' s' H n len T := by
  obtain ⟨h1, h2, h3, h4, h5⟩ := h
  exact ⟨e, by rw [f4, h2], fun i j hi hj => by rw [f 110 (by omega)]; exact h3 i j hi hj, by rw [f6, h4], fun j hj => by rw [f 111 (by omega)]; exact h5 j hj⟩
theorem RC_fr {M N M' : Mem} {s s' : Nat → Nat} {H : Nat → Nat → Nat} {n len : Nat} {T : Nat → Nat} {r : Int32} (h : RC N M' s s' H n len T r) (f : ∀ o, o < 106 ∨ 116 < o → N o = M o) : RC M M' s s' H n len T r := ⟨h.1, h.2.1, fun o ho => by rw [h.2.2 o ho, f o ho]⟩
def oPlace (s : Nat → Nat) (r : Int32) (s' : Nat → Nat) : Prop := s 0 = 10 ∧ r = -1000000003 ∧ s' = s ∨ s 0 < 10 ∧ r = nI (s 0) ∧ s' = upN s 0 (s 0 + 1)
theorem oPlace_ex {s : Nat → Nat} (i : Inv s) : ∃ r s', oPlace s r s' := by
  have g0 := i.1.1
  by_cases c : s 0 = 10
  · exact ⟨_, _, Or.inl ⟨c, rfl, rfl⟩⟩
  · exact ⟨_, _, Or.inr ⟨by omega, rfl, rfl⟩⟩
theorem oPlace_inv {s : Nat → Nat} (i : Inv s) {r : Int32} {s' : Nat → Nat} (o : oPlace s r s') : Inv s' ∧ (er r ∧ s' = s ∨ nr r) := by
  rcases o with ⟨h1, h2, h3⟩ | ⟨h1, h2, h3⟩
  · rw [h2, h3]; exact ⟨i, Or.inl ⟨Or.inr (Or.inr (Or.inl rfl)), rfl⟩⟩
  · rw [h2, h3]
    obtain ⟨⟨g0, g1, g2⟩, i2, i3, i4, i5⟩ := i
    have n : ∀ j, j ≠ 0 → upN s 0 (s 0 + 1) j = s j := fun j h => upN_n h
    have e0 : upN s 0 (s 0 + 1) 0 = s 0 + 1 := upN_s
    refine ⟨⟨⟨by rw [e0]; omega, by rw [n 1 (by omega)]; exact g1, fun q hq => ?_⟩, ?_, ?_, by rw [n 8 (by omega)]; exact i4, ?_⟩, Or.inr (nr_nI (by omega))⟩
    · rw [n 1 (by omega)] at hq
      have h := g2 q hq
      unfold pOk at h ⊢
      rw [e0, n (30 + 6 * q + 0) (by omega), n (30 + 6 * q + 1) (by omega), n (30 + 6 * q + 2) (by omega), n (30 + 6 * q + 3) (by omega), n (30 + 6 * q + 4) (by omega)]
      exact ⟨by omega, by omega, h.2.2⟩
    · unfold sOk at i2 ⊢
      rw [n 13 (by omega), n 14 (by omega), n 15 (by omega), n 16 (by omega), n 17 (by omega), n 18 (by omega), n 19 (by omega)]
      exact i2
    · unfold fOk at i3 ⊢
      rw [n 7 (by omega), e0]
      omega
    · unfold bOk at i5 ⊢
      rw [n 7 (by omega), e0, n 9 (by omega), n 10 (by omega), n 12 (by omega), n 20 (by omega)]
      refine ⟨fun h9 => ?_, i5.2⟩
      obtain ⟨q1, q2, q3, q4, q5, q6, q7⟩ := i5.1 h9
      exact ⟨by omega, q2, q3, q4, q5, q6, fun i hi => by rw [n (20 + i) (by omega)]; have := q7 i hi; omega⟩
def oForget (s : Nat → Nat) (r : Int32) (s' : Nat → Nat) : Prop := r = nI (sumTo (trl s) (s 1)) - nI (sumTo (trl s') (s 1)) ∧ s' = mapT (upN s 9 0) (s 1) (fun _ => s 17)
theorem trl_le {s : Nat → Nat} (g : Gph s) : sumTo (trl s) (s 1) ≤ 159984 := by
  have h := sumTo_le (f := trl s) (c := 9999) (n := s 1) (fun k hk => by
    have p := g.2.2 k hk
    unfold pOk at p
    unfold trl
    omega)
  have h2 : s 1 * 9999 ≤ 16 * 9999 := Nat.mul_le_mul_right _ g.2.1
  omega
theorem oForget_inv {s : Nat → Nat} (i : Inv s) {r : Int32} {s' : Nat → Nat} (o : oForget s r s') : Inv s' ∧ nr r ∧ s' 1 = s 1 := by
  obtain ⟨h1, h2⟩ := o
  have lo : ∀ j, j < 30 → j ≠ 9 → s' j = s j := fun j h h' => by rw [h2, mapT_lo h, upN_n h']
  have e9 : s' 9 = 0 := by rw [h2, mapT_lo (by omega), upN_s]
  have hi : ∀ k w, w ≠ 3 → w < 6 → s' (30 + 6 * k + w) = s (30 + 6 * k + w) := fun k w h h' => by rw [h2, mapT_w h h', upN_n (by omega)]
  have tr : ∀ k, k < s 1 → s' (30 + 6 * k + 3) = s 17 := fun k hk => by rw [h2, mapT_3 hk]
  have i0 := i
  obtain ⟨⟨g0, g1, g2⟩, i2, i3, i4, i5⟩ := i
  have s2 := i2
  unfold sOk at s2
  have inv : Inv s' := by
    refine ⟨⟨by rw [lo 0 (by omega) (by omega)]; exact g0, by rw [lo 1 (by omega) (by omega)]; exact g1, fun q hq => ?_⟩, ?_, ?_, by rw [lo 8 (by omega) (by omega)]; exact i4, ?_⟩
    · rw [lo 1 (by omega) (by omega)] at hq
      have h := g2 q hq
      unfold pOk at h ⊢
      rw [lo 0 (by omega) (by omega), hi q 0 (by omega) (by omega), hi q 1 (by omega) (by omega), hi q 2 (by omega) (by omega), tr q hq, hi q 4 (by omega) (by omega)]
      exact ⟨h.1, h.2.1, h.2.2.1, h.2.2.2.1, h.2.2.2.2.1, by omega, by omega, h.2.2.2.2.2.2.2⟩
    · unfold sOk at i2 ⊢
      rw [lo 13 (by omega) (by omega), lo 14 (by omega) (by omega), lo 15 (by omega) (by omega), lo 16 (by omega) (by omega), lo 17 (by omega) (by omega), lo 18 (by omega) (by omega), lo 19 (by omega) (by omega)]
      exact i2
    · unfold fOk at i3 ⊢
      rw [lo 7 (by omega) (by omega), lo 0 (by omega) (by omega)]
      exact i3
    · exact ⟨fun h => absurd e9 h, by rw [lo 10 (by omega) (by omega)]; exact i5.2⟩
  have e1 := lo 1 (by omega) (by omega)
  have b1 := trl_le i0.1
  have b2 := trl_le inv.1
  rw [e1] at b2
  exact ⟨inv, by rw [h1]; exact nr_sub (by omega) (by omega), e1⟩
theorem begn {M : Mem} {s : Nat → Nat} {H : Nat → Nat → Nat} {n len : Nat} {T : Nat → Nat} (h : RfL M s H n len T) : ∃ f, upM M 108 (cp 146 (M 107) (M 108)) = upM M 108 (cp 146 (nf s) f) ∧ RfL (upM M 108 (cp 146 (nf s) f)) s H n len T := ⟨M 108, by rw [h.1], RfL_up h h.1 (fun o ho => upM_n (by omega)) rfl rfl⟩
section CHG
variable {σ : Sg} {M : Mem} {s s' : Nat → Nat} {H : Nat → Nat → Nat} {n len : Nat} {T : Nat → Nat} {r : Int32}
end CHG
