/-! where a ground keeps what; one cell changed -/
def lo (g j : Nat) : Nat := if j = 0 ∨ j = 1 ∨ j = 2 ∨ j = 7 ∨ j = 8 then g else if j < 7 then g + 10 else if j < 20 then g + 9 else if j < 126 then (if j % 6 = 5 then g + 7 else if j % 6 = 4 then g + 8 else g + 3 + j % 6) else g + 1 + j % 2
def li (j : Nat) : Nat := if j = 0 then 0 else if j = 1 then 3 else if j = 2 then 13 else if j = 7 then 10 else if j = 8 then 11 else if j < 7 then j - 4 else if j < 20 then j - 13 else if j < 126 then (j - 30) / 6 else (j - 126) / 2
def J (j : Nat) : Prop := j < 3 ∨ 4 ≤ j ∧ j < 9 ∨ 13 ≤ j ∧ j < 20 ∨ 30 ≤ j ∧ j < 146
def iv (o i : Nat) : Nat := if o = 0 then (if i = 0 then 0 else if i = 3 then 1 else if i = 13 then 2 else if i = 10 then 7 else 8) else if o = 10 then i + 4 else if o = 9 then i + 13 else if o = 1 then 126 + 2 * i else if o = 2 then 127 + 2 * i else if o = 7 then 35 + 6 * i else if o = 8 then 34 + 6 * i else 27 + 6 * i + o
theorem lo_ge {g j : Nat} : g ≤ lo g j ∧ lo g j ≤ g + 10 := by
  unfold lo
  split
  · omega
  · split
    · omega
    · split
      · omega
      · split
        · split
          · omega
          · split
            · omega
            · omega
        · omega
theorem lo_0 {g j : Nat} : lo g j = g + lo 0 j := by
  unfold lo
  split
  · omega
  · split
    · omega
    · split
      · omega
      · split
        · split
          · omega
          · split
            · omega
            · omega
        · omega
theorem iv_ok {j : Nat} (h : J j) : iv (lo 0 j) (li j) = j := by
  unfold J at h
  by_cases c0 : j < 9
  · have : j = 0 ∨ j = 1 ∨ j = 2 ∨ j = 4 ∨ j = 5 ∨ j = 6 ∨ j = 7 ∨ j = 8 := by omega
    rcases this with e | e | e | e | e | e | e | e <;> subst e <;> decide
  · by_cases c1 : j < 20
    · have e1 : lo 0 j = 9 := by
        unfold lo
        rw [if_neg (by omega), if_neg (by omega), if_pos c1]
      have e2 : li j = j - 13 := by
        unfold li
        rw [if_neg (by omega), if_neg (by omega), if_neg (by omega), if_neg (by omega), if_neg (by omega), if_neg (by omega), if_pos c1]
      rw [e1, e2]
      unfold iv
      rw [if_neg (by omega), if_neg (by omega), if_pos rfl]
      omega
    · by_cases c2 : j < 126
      · have e2 : li j = (j - 30) / 6 := by
          unfold li
          rw [if_neg (by omega), if_neg (by omega), if_neg (by omega), if_neg (by omega), if_neg (by omega), if_neg (by omega), if_neg c1, if_pos c2]
        have e1 : lo 0 j = if j % 6 = 5 then 7 else if j % 6 = 4 then 8 else 3 + j % 6 := by
          unfold lo
          rw [if_neg (by omega), if_neg (by omega), if_neg c1, if_pos c2, Nat.zero_add, Nat.zero_add, Nat.zero_add]
        rw [e1, e2]
        unfold iv
        by_cases d5 : j % 6 = 5
        · rw [if_pos d5, if_neg (by omega), if_neg (by omega), if_neg (by omega), if_neg (by omega), if_neg (by omega), if_pos rfl]
          omega
        · rw [if_neg d5]
          by_cases d4 : j % 6 = 4
          · rw [if_pos d4, if_neg (by omega), if_neg (by omega), if_neg (by omega), if_neg (by omega), if_neg (by omega), if_neg (by omega), if_pos rfl]
            omega
          · rw [if_neg d4, if_neg (by omega), if_neg (by omega), if_neg (by omega), if_neg (by omega), if_neg (by omega), if_neg (by omega), if_neg (by omega)]
            omega
      · have e2 : li j = (j - 126) / 2 := by
          unfold li
          rw [if_neg (by omega), if_neg (by omega), if_neg (by omega), if_neg (by omega), if_neg (by omega), if_neg (by omega), if_neg c1, if_neg c2]
        have e1 : lo 0 j = 1 + j % 2 := by
          unfold lo
          rw [if_neg (by omega), if_neg (by omega), if_neg c1, if_neg c2, Nat.zero_add]
        rw [e1, e2]
        unfold iv
        by_cases d : j % 2 = 0
        · rw [d, if_neg (by omega), if_neg (by omega), if_neg (by omega), if_pos rfl]
          omega
        · rw [show j % 2 = 1 by omega, if_neg (by omega), if_neg (by omega), if_neg (by omega), if_neg (by omega), if_pos rfl]
          omega
theorem lc_inj {g j k : Nat} (hj : J j) (hk : J k) (h1 : lo g j = lo g k) (h2 : li j = li k) : j = k := by
  rw [lo_0 (j := j), lo_0 (j := k)] at h1
  have h3 : lo 0 j = lo 0 k := by omega
  rw [← iv_ok hj, ← iv_ok hk, h3, h2]
theorem lo_p0 {g k : Nat} (hk : k < 16) : lo g (30 + 6 * k + 0) = g + 3 := by
  unfold lo
  rw [if_neg (by omega), if_neg (by omega), if_neg (by omega), if_pos (by omega), if_neg (by omega), if_neg (by omega)]
  omega
theorem lo_p1 {g k : Nat} (hk : k < 16) : lo g (30 + 6 * k + 1) = g + 4 := by
  unfold lo
  rw [if_neg (by omega), if_neg (by omega), if_neg (by omega), if_pos (by omega), if_neg (by omega), if_neg (by omega)]
  omega
theorem lo_p2 {g k : Nat} (hk : k < 16) : lo g (30 + 6 * k + 2) = g + 5 := by
  unfold lo
  rw [if_neg (by omega), if_neg (by omega), if_neg (by omega), if_pos (by omega), if_neg (by omega), if_neg (by omega)]
  omega
theorem lo_p3 {g k : Nat} (hk : k < 16) : lo g (30 + 6 * k + 3) = g + 6 := by
  unfold lo
  rw [if_neg (by omega), if_neg (by omega), if_neg (by omega), if_pos (by omega), if_neg (by omega), if_neg (by omega)]
  omega
theorem lo_p4 {g k : Nat} (hk : k < 16) : lo g (30 + 6 * k + 4) = g + 8 := by
  unfold lo
  rw [if_neg (by omega), if_neg (by omega), if_neg (by omega), if_pos (by omega), if_neg (by omega), if_pos (by omega)]
theorem lo_p5 {g k : Nat} (hk : k < 16) : lo g (30 + 6 * k + 5) = g + 7 := by
  unfold lo
  rw [if_neg (by omega), if_neg (by omega), if_neg (by omega), if_pos (by omega), if_pos (by omega)]
theorem li_p {k w : Nat} (hk : k < 16) (hw : w < 6) : li (30 + 6 * k + w) = k := by
  unfold li
  rw [if_neg (by omega), if_neg (by omega), if_neg (by omega), if_neg (by omega), if_neg (by omega), if_neg (by omega), if_neg (by omega), if_pos (by omega)]
  omega
theorem lo_q0 {g p : Nat} : lo g (126 + 2 * p + 0) = g + 1 := by
  unfold lo
  rw [if_neg (by omega), if_neg (by omega), if_neg (by omega), if_neg (by omega)]
  omega
theorem lo_q1 {g p : Nat} : lo g (126 + 2 * p + 1) = g + 2 := by
  unfold lo
  rw [if_neg (by omega), if_neg (by omega), if_neg (by omega), if_neg (by omega)]
  omega
theorem li_q {p w : Nat} (hw : w < 2) : li (126 + 2 * p + w) = p := by
  unfold li
  rw [if_neg (by omega), if_neg (by omega), if_neg (by omega), if_neg (by omega), if_neg (by omega), if_neg (by omega), if_neg (by omega), if_neg (by omega)]
  omega
theorem lo_s {g k : Nat} (hk : k < 7) : lo g (13 + k) = g + 9 := by
  unfold lo
  rw [if_neg (by omega), if_neg (by omega), if_pos (by omega)]
theorem li_s {k : Nat} (hk : k < 7) : li (13 + k) = k := by
  unfold li
  rw [if_neg (by omega), if_neg (by omega), if_neg (by omega), if_neg (by omega), if_neg (by omega), if_neg (by omega), if_pos (by omega)]
  omega
theorem lo_e {g y : Nat} (hy : y < 3) : lo g (4 + y) = g + 10 := by
  unfold lo
  rw [if_neg (by omega), if_pos (by omega)]
theorem li_e {y : Nat} (hy : y < 3) : li (4 + y) = y := by
  unfold li
  rw [if_neg (by omega), if_neg (by omega), if_neg (by omega), if_neg (by omega), if_neg (by omega), if_pos (by omega)]
  omega
theorem RG_of {M : Mem} {g : Nat} {s : Nat → Nat} (h : ∀ j, J j → M (lo g j) (li j) = nI (s j)) (hb : s 9 ≠ 0 → M g 16 = nI (s 11)) (hw : ∃ W, RW M (g + 11) W ∧ BW s W) : RG M g s := by
  refine ⟨h 0 (by unfold J; omega), fun p hp => ?_, fun p hp => ?_, h 1 (by unfold J; omega), fun k hk => ?_, fun k hk => ?_, fun k hk => ?_, fun k hk => ?_, fun k hk => ?_, fun k hk => ?_, h 7 (by unfold J; omega), h 8 (by unfold J; omega), fun k hk => ?_, h 2 (by unfold J; omega), fun y hy => ?_, hb, hw⟩
  · have q := h (126 + 2 * p + 0) (by unfold J; omega)
    rwa [lo_q0, li_q (by omega)] at q
  · have q := h (126 + 2 * p + 1) (by unfold J; omega)
    rwa [lo_q1, li_q (by omega)] at q
  · have q := h (30 + 6 * k + 0) (by unfold J; omega)
    rwa [lo_p0 hk, li_p hk (by omega)] at q
  · have q := h (30 + 6 * k + 1) (by unfold J; omega)
    rwa [lo_p1 hk, li_p hk (by omega)] at q
  · have q := h (30 + 6 * k + 2) (by unfold J; omega)
    rwa [lo_p2 hk, li_p hk (by omega)] at q
  · have q := h (30 + 6 * k + 3) (by unfold J; omega)
    rwa [lo_p3 hk, li_p hk (by omega)] at q
  · have q := h (30 + 6 * k + 5) (by unfold J; omega)
    rwa [lo_p5 hk, li_p hk (by omega)] at q
  · have q := h (30 + 6 * k + 4) (by unfold J; omega)
    rwa [lo_p4 hk, li_p hk (by omega)] at q
  · have q := h (13 + k) (by unfold J; omega)
    rwa [lo_s hk, li_s hk] at q
  · have q := h (4 + y) (by unfold J; omega)
    rwa [lo_e hy, li_e hy] at q
theorem RG_to {M : Mem} {g : Nat} {s : Nat → Nat} (r : RG M g s) : ∀ j, J j → M (lo g j) (li j) = nI (s j) := by
  intro j h
  unfold J at h
  by_cases c0 : j < 9
  · have : j = 0 ∨ j = 1 ∨ j = 2 ∨ j = 4 ∨ j = 5 ∨ j = 6 ∨ j = 7 ∨ j = 8 := by omega
    rcases this with e | e | e | e | e | e | e | e <;> subst e
    · exact rg_pc r
    · exact rg_nc r
    · exact rg_laps r
    · exact rg_end r 0 (by omega)
    · exact rg_end r 1 (by omega)
    · exact rg_end r 2 (by omega)
    · exact rg_food r
    · exact rg_x r
  · by_cases c1 : j < 20
    · obtain ⟨k, hk, e⟩ : ∃ k, k < 7 ∧ j = 13 + k := ⟨j - 13, by omega, by omega⟩
      subst e
      rw [lo_s hk, li_s hk]
      exact rg_set r k hk
    · by_cases c2 : j < 126
      · obtain ⟨k, w, hk, hw, e⟩ : ∃ k w, k < 16 ∧ w < 6 ∧ j = 30 + 6 * k + w := ⟨(j - 30) / 6, (j - 30) % 6, by omega, by omega, by omega⟩
        have hw' : w = 0 ∨ w = 1 ∨ w = 2 ∨ w = 3 ∨ w = 4 ∨ w = 5 := by omega
        rcases hw' with e2 | e2 | e2 | e2 | e2 | e2 <;> subst e2 <;> subst e
        · rw [lo_p0 hk, li_p hk (by omega)]; exact rg_one r k hk
        · rw [lo_p1 hk, li_p hk (by omega)]; exact rg_oth r k hk
        · rw [lo_p2 hk, li_p hk (by omega)]; exact rg_len r k hk
        · rw [lo_p3 hk, li_p hk (by omega)]; exact rg_trl r k hk
        · rw [lo_p4 hk, li_p hk (by omega)]; exact rg_clo r k hk
        · rw [lo_p5 hk, li_p hk (by omega)]; exact rg_wal r k hk
      · obtain ⟨p, w, hp, hw, e⟩ : ∃ p w, p < 10 ∧ w < 2 ∧ j = 126 + 2 * p + w := ⟨(j - 126) / 2, (j - 126) % 2, by omega, by omega, by omega⟩
        have hw' : w = 0 ∨ w = 1 := by omega
        rcases hw' with e2 | e2 <;> subst e2 <;> subst e
        · rw [lo_q0, li_q (by omega)]; exact rg_came r p hp
        · rw [lo_q1, li_q (by omega)]; exact rg_stk r p hp
theorem BW_e {s t : Nat → Nat} {W : (Nat × Nat × Nat × Nat × (Nat → Nat))} (h10 : s 10 ≤ 9) (h : ∀ i, i = 9 ∨ i = 10 ∨ i = 12 ∨ 20 ≤ i ∧ i < 30 → t i = s i) (b : BW s W) : BW t W := by
  unfold BW at b ⊢
  rw [h 9 (by omega), h 10 (by omega), h 12 (by omega)]
  rcases b with b | ⟨b0, b1, b2, b3, b4, b5, b6⟩
  · exact Or.inl b
  · refine Or.inr ⟨b0, b1, b2, b3, b4, fun i hi => by rw [h (20 + i) (by omega)]; exact b5 i hi, fun p hp => ?_⟩
    rw [b6 p hp]
    constructor
    · rintro ⟨i, hi, e⟩
      exact ⟨i, hi, by rw [h (20 + i) (by omega)]; exact e⟩
    · rintro ⟨i, hi, e⟩
      exact ⟨i, hi, by rw [h (20 + i) (by omega)] at e; exact e⟩
theorem RG_up {M : Mem} {g : Nat} {s : Nat → Nat} (r : RG M g s) (h10 : s 10 ≤ 9) {j x o i : Nat} (hj : J j) (ho : lo g j = o) (hi : li j = i) : RG (upM M o (upI (M o) i (nI x))) g (upN s j x) := by
  have hj' := hj
  unfold J at hj'
  have ge := @lo_ge g j
  subst ho hi
  refine RG_of (fun k hk => ?_) (fun h9 => ?_) ?_
  · by_cases c : k = j
    · rw [c, upM_s, upI_s, upN_s]
    · rw [upN_n c]
      by_cases c2 : lo g k = lo g j
      · rw [c2, upM_s, upI_n (fun e => c (lc_inj hk hj c2 e)), ← c2]
        exact RG_to r k hk
      · rw [upM_n c2]
        exact RG_to r k hk
  · rw [upN_n (by omega)] at h9 ⊢
    by_cases c : g = lo g j
    · rw [← c, upM_s]
      have : li j ≠ 16 := by
        intro e
        unfold li at e
        unfold lo at c
        by_cases d : j = 0 ∨ j = 1 ∨ j = 2 ∨ j = 7 ∨ j = 8
        · rcases d with d | d | d | d | d <;> subst d <;> revert e <;> decide
        · rw [if_neg d] at c
          split at c
          · omega
          · split at c
            · omega
            · split at c
              · split at c
                · omega
                · split at c <;> omega
              · omega
      rw [upI_n (Ne.symm this)]
      exact rg_bl r h9
    · rw [upM_n c]
      exact rg_bl r h9
  · obtain ⟨W, w1, w2⟩ := rg_best r
    refine ⟨W, RW_fr w1 (upM_n (by omega)) (upM_n (by omega)), BW_e h10 (fun i hi => upN_n (by omega)) w2⟩
theorem RG_e {M N : Mem} {g : Nat} {s t : Nat → Nat} (r : RG M g s) (h10 : s 10 ≤ 9) (e : e146 s t) (f : ∀ o, g ≤ o → o ≤ g + 12 → N o = M o) : RG N g t := by
  refine RG_of (fun j hj => ?_) (fun h9 => ?_) ?_
  · have ge := @lo_ge g j
    rw [f _ (by omega) (by omega), e j (by unfold J at hj; omega)]
    exact RG_to r j hj
  · rw [f _ (by omega) (by omega), e 11 (by omega)]
    rw [e 9 (by omega)] at h9
    exact rg_bl r h9
  · obtain ⟨W, w1, w2⟩ := rg_best r
    exact ⟨W, RW_fr w1 (f _ (by omega) (by omega)) (f _ (by omega) (by omega)), BW_e h10 (fun i hi => e i (by omega)) w2⟩
