theorem x_new {i : Nat} {m pc npc a b d w : Nat} {cv : Value} {sw : List (Int32 × Nat)} {l : List En} (hm : mC m = l) (he : fe l pc = some ((.new i), npc, a, b, d, w, cv, sw)) (ls : Lcl) (st : List Value) {σ : Sg} (h : ¬ sT σ (sN σ) = 9) (M : Mem) (Q : Po) : wp m pc ls st σ M Q = wp m npc ls (.ref (sN σ) :: st) (alloc σ a 0 b) (upM M (sN σ) (fun _ => 0)) Q := (wp_eq hm he ls st σ M Q).trans (by
  show wpR (gd (¬ sT σ (sN σ) = 9) (go npc ls (.ref (sN σ) :: st) (alloc σ a 0 b) (upM M (sN σ) (fun _ => 0)))) m npc ls σ M Q = _
  unfold gd
  rw [if_pos h]
  rfl)
theorem dec_t {p : Prop} {d : Decidable p} (h : @decide p d = true) : p := @of_decide_eq_true p d h
section PURE
variable {L : Nat} {xs : Nat → Int32} {σ : Sg} {M : Mem}
theorem ch_s0 : chS L (s0 0) = s0 L := by
  show ((0 : Nat), (0 : Nat), t0T, upM (t0L 0) 1003 L, _) = ((0 : Nat), (0 : Nat), t0T, t0L L, _)
  have e : upM (t0L 0) 1003 L = t0L L := by
    funext i
    unfold upM t0L
    by_cases c : i = 1003
    · rw [if_pos c, if_pos c]
    · rw [if_neg c, if_neg c, if_neg c]
  rw [e]
  rfl
theorem ch_m0 : chM xs (m0 (fun _ => 0)) = m0 xs := by
  funext i
  unfold chM upM m0
  by_cases c : i = 1003
  · subst c
    rfl
  · rw [if_neg c, if_neg c, if_neg c]
theorem nr_0 : nrH (s0 0) := ⟨rfl, fun _ _ h => by cases h⟩
theorem IsG_ch {g : Nat} (hg : g < 900) (G : IsG σ g) : IsG (chS L σ) g := by
  have e : ∀ k, k ≤ 12 → sL (chS L σ) (g + k) = sL σ (g + k) := fun k hk => chL_ne (by omega)
  unfold IsG at G ⊢
  rw [e 1 (by omega), e 2 (by omega), e 3 (by omega), e 4 (by omega), e 5 (by omega), e 6 (by omega), e 7 (by omega), e 8 (by omega), e 9 (by omega), e 10 (by omega), e 12 (by omega)]
  exact G
theorem bW_t {w : Nat} (h : bW M w = true) : RW M w W0 := by
  obtain ⟨h1, h2, h3, h4, h5⟩ := of_decide_eq_true h
  exact ⟨h1, h2, h3, h4, h5, fun i hi => by
    have : i = 0 := Nat.le_zero.1 hi
    rw [this]; exact h5⟩
theorem bJ_t (h : bJ M = true) : ∀ j, J j → M (lo 1 j) (li j) = nI (s00 j) := fun j hj => by
  unfold J at hj
  have q := all_range h (j := j) (by omega)
  simp only [Bool.or_eq_true, Bool.and_eq_true, decide_eq_true_eq] at q
  rcases q with ((q | q) | q) | q
  · omega
  · omega
  · omega
  · exact q
theorem begin_ (h : kB (some (none, σ, M)) = true) : Lw L xs (chS L σ) (chM xs M) s00 (fun _ => s00) 0 0 (fun _ => 0) 0 := by
  simp only [kB, Bool.and_eq_true] at h
  obtain ⟨⟨⟨⟨⟨⟨⟨⟨⟨⟨⟨⟨⟨⟨⟨⟨⟨⟨hA, h1⟩, h14⟩, h29⟩, h42⟩, h55⟩, h68⟩, h81⟩, hO⟩, hV⟩, hD⟩, hH⟩, hS⟩, w12⟩, w95⟩, w101⟩, hJ⟩, hC⟩, hZ⟩ := h
  have hA : IsA σ := dec_t hA
  have h1 : IsG σ 1 := dec_t h1
  have h14 : IsG σ 14 := dec_t h14
  have h29 : IsG σ 29 := dec_t h29
  have h42 : IsG σ 42 := dec_t h42
  have h55 : IsG σ 55 := dec_t h55
  have h68 : IsG σ 68 := dec_t h68
  have h81 : IsG σ 81 := dec_t h81
  have hO : IsO σ := dec_t hO
  have hV : IsV σ := dec_t hV
  have hD : IsD σ := dec_t hD
  obtain ⟨g1, g2, g3, g4, r0, r1, r2, r3, r4⟩ := of_decide_eq_true hH
  obtain ⟨q1, q2, q3, q4, q5, q6, q7⟩ := of_decide_eq_true hS
  obtain ⟨z3, z4⟩ := of_decide_eq_true hZ
  have f : ∀ o, o ≠ 1003 → chM xs M o = M o := fun o h => chM_ne h
  have ix := Inv_00
  have RG1 : RG M 1 s00 := RG_of (bJ_t hJ) (fun h => absurd rfl h) ⟨W0, bW_t w12, Or.inl ⟨rfl, rfl⟩⟩
  have RG2 : RG (chM xs M) 1 s00 := RG_o RG1 ix.1.2.2.2.2.2 (fun o h1 h2 => f o (by omega))
  have gI : ∀ i, i < 5 → IsG (chS L σ) (I0 i) ∧ 29 ≤ I0 i ∧ I0 i ≤ 81 := fun i hi => by
    rcases (show i = 0 ∨ i = 1 ∨ i = 2 ∨ i = 3 ∨ i = 4 by omega) with c | c | c | c | c <;> subst c
    · exact ⟨IsG_ch (by decide) h29, by decide, by decide⟩
    · exact ⟨IsG_ch (by decide) h42, by decide, by decide⟩
    · exact ⟨IsG_ch (by decide) h55, by decide, by decide⟩
    · exact ⟨IsG_ch (by decide) h68, by decide, by decide⟩
    · exact ⟨IsG_ch (by decide) h81, by decide, by decide⟩
  have hHH : IsH (chS L σ) I0 := ⟨g1, g2, g3, g4, fun i hi => by
    rcases (show i = 0 ∨ i = 1 ∨ i = 2 ∨ i = 3 ∨ i = 4 by omega) with c | c | c | c | c <;> subst c
    · exact r0
    · exact r1
    · exact r2
    · exact r3
    · exact r4, gI, fun i j hi hj hij => by unfold I0; omega⟩
  have hCC : IsC (chS L σ) (chM xs M) := ⟨q1, q2, q4, q5, fun k hk => by
    rw [f 1001 (by decide)]
    exact (of_decide_eq_true (all_range hC hk)).1, fun k hk => by
    rw [f 1002 (by decide)]
    exact (of_decide_eq_true (all_range hC hk)).2⟩
  have CL : ClL (chS L σ) (chM xs M) I0 s00 (fun _ => s00) 0 0 (fun _ => 0) := ⟨⟨hA, IsG_ch (by decide) h1, IsG_ch (by decide) h14, hO, hV, hD⟩, hHH, hCC, RG2, ix, ⟨z3, Nat.zero_le _⟩, fun i hi => absurd hi (Nat.not_lt_zero _), ⟨z4, fun j hj => absurd hj (Nat.not_lt_zero _)⟩, ⟨W0, RW_fr (bW_t w95) (f 95 (by decide)) (f (95 + 1) (by decide))⟩, ⟨W0, RW_fr (bW_t w101) (f 101 (by decide)) (f (101 + 1) (by decide))⟩⟩
  exact ⟨⟨I0, CL⟩, ⟨Nat.zero_le _, fun j hj => absurd hj (Nat.not_lt_zero _)⟩, ⟨PJ_00, by decide⟩, fun i hi => absurd hi (Nat.not_lt_zero _), hA.1, q3, (upM_s : upM (sL σ) 1003 L 1003 = L), (upM_s : upM M 1003 xs 1003 = xs), q6, q7⟩
theorem law_pure : ∀ (L : Nat) (xs : Nat → Int32), L ≤ 260 → wp 0 0 [some (.ref 1003), none, none, none, none, none, none, none, none, none, none] [] (s0 L) (m0 xs) qEnd := by
  intro L xs hL
  obtain ⟨σ1, M1, h1, h5⟩ := runs
  have n9 : ¬ sT (s0 0) (sN (s0 0)) = 9 := by decide
  have nl : ∀ o, o ≠ 1003 → nrL [some (.ref o)] := fun o ho k v hk => by
    match k, hk with
    | 0, hk => cases hk; exact fun e => ho (Value.ref.inj e)
    | k + 1, hk => cases hk
  have ns : nrS [] := fun _ q => absurd q List.not_mem_nil
  have nA : nrH sA := nrH_al nr_0 n9
  obtain ⟨c1, c2⟩ := ch_exec L xs h1 (nl 0 (by decide)) ns nA
  have eA : chS L sA = alloc (s0 L) 16 0 6 := by
    unfold sA
    rw [← ch_al nr_0 n9, ch_s0]
  have eM : chM xs mA = upM (m0 xs) 0 (fun _ => 0) := by
    unfold mA
    rw [← chM_up (by decide), ch_m0]
  rw [eA, eM] at c1
  have w1 := fun Q => wp_spec (Q := Q) ⟨2000, none, chS L σ1, chM xs M1, c1, rfl, rfl, rfl⟩
  have k := from8 hL (begin_ (L := L) (xs := xs) h5)
  have x1 : wp 0 0 [some (.ref 1003), none, none, none, none, none, none, none, none, none, none] [] (s0 L) (m0 xs) qEnd = _ := x_new (i := 14) (pc := 0) (npc := 3) (a := 16) (b := 6) (d := 0) (w := 22) (cv := .null) (sw := []) lst_0 rfl _ _ (show ¬ sT (s0 L) (sN (s0 L)) = 9 from n9) _ _
  have e0 : sN (s0 L) = 0 := rfl
  have e1 : sT (alloc (s0 L) 16 0 6) 0 = 16 := rfl
  rw [x1, e0]
  simp only [k0_3i, k0_3r, k0_3f, k0_4, k0_7, rf_s, pushR_s, pushR_n, le4_0, le4_1, le4_2, le4_3, le4_4, isLong_n, isLong_i, isLong_r, isLong_f, if_true, if_false, not_true_eq_false, not_false_eq_true, isI_0, isI_9, isAr_0, isAr_1, isAr_2, isAr_9, okR_i, okR_0, okR_1, putI_0, putI_b0, putI_b1, nI_10, nI_00, Nat.reduceLT, Nat.reduceLeDiff, nI_add, upM_s, upI_s, pk_mul, nf_at, e1, w1]
  exact k
end PURE
