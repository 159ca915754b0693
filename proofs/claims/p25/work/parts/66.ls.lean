/-! what holds at every point of the law, and its calls of the class -/
section LSS
variable {L : Nat} {xs : Nat → Int32} {σ τ : Sg} {M M' : Mem} {I : Nat → Nat} {s s' : Nat → Nat} {H : Nat → Nat → Nat} {n len B : Nat} {T : Nat → Nat} {r : Int32}
/-- the class holds s, the history H of n states, the text T; no state has more than B laps -/
def Lw (L : Nat) (xs : Nat → Int32) (σ : Sg) (M : Mem) (s : Nat → Nat) (H : Nat → Nat → Nat) (n len : Nat) (T : Nat → Nat) (B : Nat) : Prop := (∃ I, ClL σ M I s H n len T) ∧ (len ≤ 60 ∧ ∀ j, j < len → T j ≤ 126) ∧ (PJ 0 s ∧ s 2 ≤ B) ∧ (∀ i, i < n → PJ 0 (H i) ∧ H i 2 ≤ B) ∧ (sT σ 0 = 16 ∧ sT σ 1003 = 9 ∧ sL σ 1003 = L ∧ M 1003 = xs ∧ sN σ ≤ 600000 ∧ sS σ ≤ 7302250)
theorem Lw.inv (K : Lw L xs σ M s H n len T B) : Inv s := by obtain ⟨⟨I, k⟩, _⟩ := K; exact k.2.2.2.2.1.1
theorem Lw.ex (K : Lw L xs σ M s H n len T B) : Ex s := by obtain ⟨⟨I, k⟩, _⟩ := K; exact k.2.2.2.2.1.2
theorem Lw.pj (K : Lw L xs σ M s H n len T B) : PJ 0 s := K.2.2.1.1
theorem Lw.b (K : Lw L xs σ M s H n len T B) : s 2 ≤ B := K.2.2.1.2
theorem Lw.n4 (K : Lw L xs σ M s H n len T B) : n ≤ 4 := by obtain ⟨⟨I, k⟩, _⟩ := K; exact k.2.2.2.2.2.1.2
theorem Lw.l60 (K : Lw L xs σ M s H n len T B) : len ≤ 60 := K.2.1.1
theorem Lw.t0 (K : Lw L xs σ M s H n len T B) : sT σ 0 = 16 := K.2.2.2.2.1
theorem Lw.row (K : Lw L xs σ M s H n len T B) : sT σ 1003 = 9 ∧ sL σ 1003 = L ∧ M 1003 = xs := ⟨K.2.2.2.2.2.1, K.2.2.2.2.2.2.1, K.2.2.2.2.2.2.2.1⟩
theorem Lw.up (K : Lw L xs σ M s H n len T B) {B' : Nat} (h : B ≤ B') : Lw L xs σ M s H n len T B' := ⟨K.1, K.2.1, ⟨K.2.2.1.1, Nat.le_trans K.2.2.1.2 h⟩, fun i hi => ⟨(K.2.2.2.1 i hi).1, Nat.le_trans (K.2.2.2.1 i hi).2 h⟩, K.2.2.2.2⟩
theorem Lw.q (K : Lw L xs σ M s H n len T B) (h : ClL σ M' I s H n len T) (f : ∀ o, 106 ≤ o → M' o = M o) : Lw L xs σ M' s H n len T B := ⟨⟨I, h⟩, K.2.1, K.2.2.1, K.2.2.2.1, K.2.2.2.2.1, K.2.2.2.2.2.1, K.2.2.2.2.2.2.1, (f 1003 (by omega)).trans K.2.2.2.2.2.2.2.1, K.2.2.2.2.2.2.2.2⟩
theorem Lw.sm (K : Lw L xs σ M s H n len T B) (h : Sm σ τ) (f : ∀ o, 106 ≤ o → M' o = M o) : sT τ 0 = 16 ∧ sT τ 1003 = 9 ∧ sL τ 1003 = L ∧ M' 1003 = xs ∧ sN τ ≤ 600000 ∧ sS τ ≤ 7302250 := by
  obtain ⟨_, _, _, _, a, b, c, d, e, g⟩ := K
  obtain ⟨h1, h2, h3, h4, _⟩ := h
  exact ⟨by rw [h1]; exact a, by rw [h1]; exact b, by rw [h2]; exact c, (f 1003 (by omega)).trans d, by rw [h3]; exact e, by rw [h4]; exact g⟩
/-- behind a change of the class -/
theorem Lw.c (K : Lw L xs σ M s H n len T B) (c : CC σ M τ M' s s' H n len T r) {B' : Nat} (hB : B ≤ B') (p : PJ 0 s') (b : s' 2 ≤ B') : (er r → Lw L xs τ M' s H n len T B') ∧ (nr r → Lw L xs τ M' s' (pH H n s) (pN n) len T B') := by
  have n4 := K.n4
  obtain ⟨c1, c2, c3, c4⟩ := c
  have K' := K.up hB
  refine ⟨fun h => ⟨c1 h, K'.2.1, K'.2.2.1, K'.2.2.2.1, K.sm c3 c4⟩, fun h => ⟨c2 h, K'.2.1, ⟨p, b⟩, fun i hi => ?_, K.sm c3 c4⟩⟩
  unfold pN at hi
  unfold pH
  by_cases c : n < 4
  · rw [if_pos c] at hi ⊢
    by_cases ci : i = n
    · show PJ 0 (if i = n then s else H i) ∧ (if i = n then s else H i) 2 ≤ B'
      rw [if_pos ci]
      exact K'.2.2.1
    · show PJ 0 (if i = n then s else H i) ∧ (if i = n then s else H i) 2 ≤ B'
      rw [if_neg ci]
      exact K'.2.2.2.1 i (by omega)
  · rw [if_neg c] at hi ⊢
    by_cases ci : i = 3
    · show PJ 0 (if i = 3 then s else H (i + 1)) ∧ (if i = 3 then s else H (i + 1)) 2 ≤ B'
      rw [if_pos ci]
      exact K'.2.2.1
    · show PJ 0 (if i = 3 then s else H (i + 1)) ∧ (if i = 3 then s else H (i + 1)) 2 ≤ B'
      rw [if_neg ci]
      exact K'.2.2.2.1 (i + 1) (by omega)
theorem no_nI {P : Nat → Prop} {x : Int32} (h : ¬ ∃ a, P a ∧ x = nI a) {a : Nat} (e : x = nI a) : ¬ P a := fun p => h ⟨a, p, e⟩
theorem e18 (K : Lw L xs σ M s H n len T B) {w : Nat} (hw : kOk w) (Q : Po) : wp 18 0 [some (.ref 0), some (.int (nI w))] [] σ M Q = Q (some (.int (nI (aCount s n len w)))) σ M := by
  obtain ⟨⟨I, k⟩, _⟩ := K
  exact c18 k (Or.inl ⟨w, hw, rfl, rfl⟩) Q
theorem e9 (K : Lw L xs σ M s H n len T B) {k w : Nat} (hk : k < s 1) (hw : w < 8) (Q : Po) : wp 9 0 [some (.ref 0), some (.int (nI k)), some (.int (nI w))] [] σ M Q = Q (some (.int (nI (aPath s k w)))) σ M := by
  obtain ⟨⟨I, l⟩, _⟩ := K
  exact c9 l (Or.inl ⟨k, hk, rfl, Or.inl ⟨w, hw, rfl, rfl⟩⟩) Q
theorem e10 (K : Lw L xs σ M s H n len T B) {p w : Nat} (hp : p < s 0) (hw : w < 5) : ∃ M', (∀ Q, wp 10 0 [some (.ref 0), some (.int (nI p)), some (.int (nI w))] [] σ M Q = Q (some (.int (aPlace s p w))) σ M') ∧ Lw L xs σ M' s H n len T B := by
  obtain ⟨⟨I, l⟩, k⟩ := id K
  obtain ⟨M', a1, a2, a3⟩ := c10 l (x := nI p) (y := nI w) (Or.inl ⟨p, hp, rfl, Or.inl ⟨w, hw, rfl, rfl⟩⟩)
  exact ⟨M', a1, K.q a2 a3⟩
def bV (s : Nat → Nat) (w : Nat) : Int32 := if s 9 = 0 then -1000000004 else nI (s (9 + w))
theorem e11 (K : Lw L xs σ M s H n len T B) {w : Nat} (hw : w ≤ 3) (Q : Po) : wp 11 0 [some (.ref 0), some (.int (nI w))] [] σ M Q = Q (some (.int (bV s w))) σ M := by
  obtain ⟨⟨I, l⟩, _⟩ := K
  refine c11 l (Or.inl ⟨w, hw, rfl, ?_⟩) Q
  unfold bV
  by_cases c : s 9 = 0
  · exact Or.inl ⟨c, if_pos c⟩
  · exact Or.inr ⟨c, if_neg c⟩
def baV (s : Nat → Nat) (k : Nat) : Int32 := if s 9 = 0 then -1000000004 else nI (s (20 + k))
theorem e12 (K : Lw L xs σ M s H n len T B) {k : Nat} (h0 : k < 2 ^ 31) (hk : s 9 ≠ 0 → k ≤ s 10) (Q : Po) : wp 12 0 [some (.ref 0), some (.int (nI k))] [] σ M Q = Q (some (.int (baV s k))) σ M := by
  obtain ⟨⟨I, l⟩, _⟩ := K
  refine c12 l (Or.inr ?_) Q
  unfold baV
  by_cases c : s 9 = 0
  · exact Or.inl ⟨nI_pos h0, c, if_pos c⟩
  · exact Or.inr ⟨nI_pos h0, c, Or.inl ⟨k, hk c, rfl, if_neg c⟩⟩
theorem e13 (K : Lw L xs σ M s H n len T B) {k p : Nat} (hp : p < s 0) (hk : k < s 1) : ∃ r, (∀ Q, wp 13 0 [some (.ref 0), some (.int (nI p)), some (.int (nI k)), none] [] σ M Q = Q (some (.int r)) σ M) ∧ (r = -1000000004 ↔ acr s k p = 10) := by
  have i := K.inv
  obtain ⟨⟨I, l⟩, _⟩ := K
  obtain ⟨r, o⟩ := rChance_ex i.1 (nI p) (nI k)
  refine ⟨r, fun Q => c13 l o Q, ?_⟩
  have p10 := i.1.1
  have k16 := i.1.2.1
  rcases o with ⟨p', k', h1, h2, h3, h4, ⟨h5, h6⟩ | ⟨h5, E, t, ⟨f1, f2, f3, f4⟩, h6⟩⟩ | ⟨h1 | ⟨_, h1⟩, h2⟩
  · have e1 : p = p' := (nI_eq (by omega) (by omega)).1 h2
    have e2 : k = k' := (nI_eq (by omega) (by omega)).1 h4
    subst e1 e2
    exact ⟨fun _ => h5, fun _ => h6⟩
  · have e1 : p = p' := (nI_eq (by omega) (by omega)).1 h2
    have e2 : k = k' := (nI_eq (by omega) (by omega)).1 h4
    subst e1 e2
    exact ⟨fun q => absurd (h6.symm.trans q) (ne_nf (by omega)), fun q => absurd q h5⟩
  · exact absurd ⟨p, hp, rfl⟩ h1
  · exact absurd ⟨k, hk, rfl⟩ h1
def gV (s : Nat → Nat) (w : Nat) : Int32 := if s 0 < 2 then -1000000002 else nI (aGreedy s w)
theorem e14 (K : Lw L xs σ M s H n len T B) {w : Nat} (hw : w ≤ 3) : ∃ M', (∀ Q, wp 14 0 [some (.ref 0), some (.int (nI w))] [] σ M Q = Q (some (.int (gV s w))) σ M') ∧ Lw L xs σ M' s H n len T B := by
  obtain ⟨⟨I, l⟩, k⟩ := id K
  have o : rGreedy s (nI w) (gV s w) := by
    refine Or.inl ⟨w, hw, rfl, ?_⟩
    unfold gV
    by_cases c : s 0 < 2
    · exact Or.inl ⟨c, if_pos c⟩
    · exact Or.inr ⟨by omega, if_neg c⟩
  obtain ⟨M', a1, a2, a3⟩ := c14 l o
  exact ⟨M', a1, K.q a2 a3⟩
def oV (s : Nat → Nat) : Int32 := if s 9 = 0 then -1000000004 else if Dr s (s 0) (s 7) < 1000 then nI (s 9) - nI (Dr s (s 0) (s 7)) else -1000000004
theorem e15 (K : Lw L xs σ M s H n len T B) : ∃ M', (∀ Q, wp 15 0 [some (.ref 0), none] [] σ M Q = Q (some (.int (oV s))) σ M') ∧ Lw L xs σ M' s H n len T B := by
  obtain ⟨⟨I, l⟩, k⟩ := id K
  have o : rOver s (oV s) := by
    unfold oV
    by_cases c : s 9 = 0
    · exact Or.inl ⟨c, if_pos c⟩
    · rw [if_neg c]
      by_cases c2 : Dr s (s 0) (s 7) < 1000
      · exact Or.inr (Or.inl ⟨c, c2, if_pos c2⟩)
      · exact Or.inr (Or.inr ⟨c, c2, if_neg c2⟩)
  obtain ⟨M', a1, a2, a3⟩ := c15 l o
  exact ⟨M', a1, K.q a2 a3⟩
def anV (s : Nat → Nat) (w : Nat) : Int32 := if s 0 < 2 then -1000000002 else nI (aAnt s w)
theorem e16 (K : Lw L xs σ M s H n len T B) {w : Nat} (hw : w ≤ 2) : ∃ M', (∀ Q, wp 16 0 [some (.ref 0), some (.int (nI w)), none] [] σ M Q = Q (some (.int (anV s w))) σ M') ∧ Lw L xs σ M' s H n len T B := by
  obtain ⟨⟨I, l⟩, k⟩ := id K
  have o : rAnt s (nI w) (anV s w) := by
    refine Or.inl ⟨w, hw, rfl, ?_⟩
    unfold anV
    by_cases c : s 0 < 2
    · exact Or.inl ⟨c, if_pos c⟩
    · exact Or.inr ⟨by omega, if_neg c⟩
  obtain ⟨M', a1, a2, a3⟩ := c16 l o
  exact ⟨M', a1, K.q a2 a3⟩
def wV (s : Nat → Nat) (m w : Nat) : Int32 := if m = 0 ∨ m = 6 then -1000000001 else if s 0 < 2 then -1000000002 else aWould s m w
theorem e17 (K : Lw L xs σ M s H n len T B) {m w : Nat} (hm : m ≤ 6) (hw : w ≤ 3) : ∃ M', (∀ Q, wp 17 0 [some (.ref 0), some (.int (nI m)), some (.int (nI w)), none] [] σ M Q = Q (some (.int (wV s m w))) σ M') ∧ Lw L xs σ M' s H n len T B := by
  obtain ⟨⟨I, l⟩, k⟩ := id K
  have o : rWould s (nI m) (nI w) (wV s m w) := by
    unfold wV
    by_cases c : m = 0 ∨ m = 6
    · rw [if_pos c]
      refine Or.inr ⟨Or.inl ?_, rfl⟩
      rintro ⟨q, h1, h2, h3⟩
      have := (nI_eq (by omega) (by omega)).1 h3
      omega
    · rw [if_neg c]
      refine Or.inl ⟨m, w, by omega, by omega, rfl, hw, rfl, ?_⟩
      by_cases c2 : s 0 < 2
      · exact Or.inl ⟨c2, if_pos c2⟩
      · exact Or.inr ⟨by omega, if_neg c2⟩
  obtain ⟨M', a1, a2, a3⟩ := c17 l o
  exact ⟨M', a1, K.q a2 a3⟩
theorem e19 (K : Lw L xs σ M s H n len T B) : ∃ M', (∀ Q, wp 19 0 [some (.ref 0)] [] σ M Q = Q (some (.int (if n = 0 then -1000000002 else nI (n - 1)))) σ M') ∧ (n = 0 → Lw L xs σ M' s H n len T B) ∧ (n ≠ 0 → Lw L xs σ M' (H (n - 1)) H (n - 1) len T B) := by
  obtain ⟨⟨I, l⟩, k⟩ := id K
  have o : rUndo n (if n = 0 then -1000000002 else nI (n - 1)) := by
    by_cases c : n = 0
    · exact Or.inl ⟨c, if_pos c⟩
    · exact Or.inr ⟨c, if_neg c⟩
  obtain ⟨M', a1, a2, a3, a4⟩ := c19 l o
  refine ⟨M', a1, fun c => K.q (a2 c) a4, fun c => ⟨⟨I, a3 c⟩, K.2.1, K.2.2.2.1 (n - 1) (by omega), fun i hi => K.2.2.2.1 i (by omega), K.sm Sm_r a4⟩⟩
theorem e20 (K : Lw L xs σ M s H n len T B) (hl : len < 60) {c : Nat} (h1 : 32 ≤ c) (h2 : c ≤ 126) : ∃ M', (∀ Q, wp 20 0 [some (.ref 0), some (.int (nI c))] [] σ M Q = Q (some (.int (nI (len + 1)))) σ M') ∧ Lw L xs σ M' s H n (len + 1) (upN T len c) B := by
  obtain ⟨⟨I, l⟩, k⟩ := id K
  obtain ⟨M', a1, a2, a3, a4⟩ := c20 l K.l60 (x := nI c) (r := nI (len + 1)) (Or.inl ⟨c, h1, h2, rfl, Or.inr ⟨hl, rfl⟩⟩)
  refine ⟨M', a1, ⟨I, a3 c rfl rfl⟩, ⟨by omega, fun j hj => ?_⟩, K.2.2.1, K.2.2.2.1, K.sm Sm_r a4⟩
  unfold upN
  by_cases cj : j = len
  · rw [if_pos cj]; exact h2
  · rw [if_neg cj]; exact K.2.1.2 j (by omega)
theorem e21 (K : Lw L xs σ M s H n len T B) : ∃ M', (∀ Q, wp 21 0 [some (.ref 0)] [] σ M Q = Q (some (.int (nI len))) σ M') ∧ Lw L xs σ M' s H n 0 T B := by
  obtain ⟨⟨I, l⟩, k⟩ := id K
  obtain ⟨M', a1, a2, a4⟩ := c21 l
  exact ⟨M', a1, ⟨I, a2⟩, ⟨Nat.zero_le _, fun j hj => absurd hj (Nat.not_lt_zero _)⟩, K.2.2.1, K.2.2.2.1, K.sm Sm_r a4⟩
def fV (u : Nat × Nat × Int32 × Nat) (w : Nat) : Int32 := if u.1 = 0 then -1000000004 else if w = 0 then nI u.2.1 else if w = 1 then nI u.1 else u.2.2.1
theorem e22 (K : Lw L xs σ M s H n len T B) {u : Nat × Nat × Int32 × Nat} {t : Nat → Nat} (h : Run T len 61 s 0 0 u t) {w : Nat} (hw : w ≤ 2) : ∃ M', (∀ Q, wp 22 0 [some (.ref 0), some (.int (nI w))] [] σ M Q = Q (some (.int (fV u w))) σ M') ∧ Lw L xs σ M' s H n len T B := by
  obtain ⟨⟨I, l⟩, k⟩ := id K
  have o : rFault T len s (nI w) (fV u w) := by
    refine Or.inl ⟨w, hw, rfl, u, t, h, ?_⟩
    unfold fV
    by_cases c : u.1 = 0
    · exact Or.inl ⟨c, if_pos c⟩
    · exact Or.inr ⟨c, if_neg c⟩
  obtain ⟨M', a1, a2, a3⟩ := c22 l K.2.1.1 K.2.1.2 o
  exact ⟨M', a1, K.q a2 a3⟩
theorem e23 (K : Lw L xs σ M s H n len T B) {u : Nat × Nat × Int32 × Nat} {t : Nat → Nat} (h : Run T len 61 s 0 0 u t) : ∃ τ M', (∀ Q, wp 23 0 [some (.ref 0), none] [] σ M Q = Q (some (.int (if u.1 = 0 then nI u.2.2.2 else -1000000002))) τ M') ∧ (u.1 ≠ 0 → Lw L xs τ M' s H n len T (B + 400)) ∧ (u.1 = 0 → Lw L xs τ M' t (pH H n s) (pN n) len T (B + 400)) := by
  obtain ⟨⟨I, l⟩, k⟩ := id K
  have o : oPlay T len s (if u.1 = 0 then nI u.2.2.2 else -1000000002) t := by
    refine ⟨u, h, ?_⟩
    by_cases c : u.1 = 0
    · exact Or.inl ⟨c, if_pos c⟩
    · exact Or.inr ⟨c, if_neg c⟩
  obtain ⟨τ, M', a1, a2⟩ := c23 l K.2.1.1 K.2.1.2 o
  obtain ⟨p1, p2, p3⟩ := Run_p 61 s 0 0 u t K.inv K.ex K.pj (Nat.zero_le _) (Nat.le_refl _) h
  have b := K.b
  have iv := Run_inv 61 s 0 0 u t K.inv h
  have z := K.c a2 (B' := B + 400) (by omega) p1 (by omega)
  refine ⟨τ, M', a1, fun c => z.1 (by rw [if_neg c]; exact Or.inr (Or.inl rfl)), fun c => z.2 (by rw [if_pos c]; exact nr_nI (by omega))⟩
end LSS
