def Cl (P : Rs → Prop) (x : Option Rs) : Prop := ∀ y, x = some y → P y
theorem cl_go {P : Rs → Prop} {pc : Nat} {ls : Lcl} {st : List Value} {σ : Sg} {M : Mem} (h : P (.inl (pc, ls, st, σ, M))) : Cl P (go pc ls st σ M) := fun y e => by
  rw [go_inl e]
  exact h
theorem cl_s {P : Rs → Prop} {x : Rs} (h : P x) : Cl P (some x) := fun y e => by
  cases e
  exact h
theorem cl_n {P : Rs → Prop} : Cl P none := fun _ e => by cases e
theorem cl_pI {P : Rs → Prop} {st : List Value} {K : Int32 → List Value → Option Rs} (h : ∀ y r, Cl P (K y r)) : Cl P (pI st K) := by
  unfold pI; split
  · exact h _ _
  · exact cl_n
theorem cl_pR {P : Rs → Prop} {st : List Value} {K : Nat → List Value → Option Rs} (h : ∀ y r, Cl P (K y r)) : Cl P (pR st K) := by
  unfold pR; split
  · exact h _ _
  · exact cl_n
theorem cl_pG {P : Rs → Prop} {st : List Value} {K : Int64 → List Value → Option Rs} (h : ∀ y r, Cl P (K y r)) : Cl P (pG st K) := by
  unfold pG; split
  · exact h _ _
  · exact cl_n
theorem cl_pF {P : Rs → Prop} {st : List Value} {K : UInt32 → List Value → Option Rs} (h : ∀ y r, Cl P (K y r)) : Cl P (pF st K) := by
  unfold pF; split
  · exact h _ _
  · exact cl_n
theorem cl_pV {P : Rs → Prop} {st : List Value} {K : Value → List Value → Option Rs} (h : ∀ y r, Cl P (K y r)) : Cl P (pV st K) := by
  unfold pV; split
  · exact h _ _
  · exact h _ _
  · exact h _ _
  · exact h _ _
  · exact cl_n
theorem cl_ldI {P : Rs → Prop} {v : Option Value} {K : Int32 → Option Rs} (h : ∀ y, Cl P (K y)) : Cl P (ldI v K) := by
  unfold ldI; split
  · exact h _
  · exact cl_n
theorem cl_ldG {P : Rs → Prop} {v : Option Value} {K : Int64 → Option Rs} (h : ∀ y, Cl P (K y)) : Cl P (ldG v K) := by
  unfold ldG; split
  · exact h _
  · exact cl_n
theorem cl_ldF {P : Rs → Prop} {v : Option Value} {K : UInt32 → Option Rs} (h : ∀ y, Cl P (K y)) : Cl P (ldF v K) := by
  unfold ldF; split
  · exact h _
  · exact cl_n
theorem cl_ldA {P : Rs → Prop} {v : Option Value} {K : Value → Option Rs} (h : ∀ y, Cl P (K y)) : Cl P (ldA v K) := by
  unfold ldA; split
  · exact h _
  · exact h _
  · exact cl_n
theorem cl_gd {P : Rs → Prop} {c : Prop} [Decidable c] {K : Option Rs} (h : c → Cl P K) : Cl P (gd c K) := by
  unfold gd; split
  · rename_i hc
    exact h hc
  · exact cl_n
theorem cl_ixI {P : Rs → Prop} {i : Int32} {n : Nat} {K : Nat → Option Rs} (h : ∀ k, Cl P (K k)) : Cl P (ixI i n K) := by
  unfold ixI; split
  · exact cl_n
  · exact h _
theorem cl_st1 {P : Rs → Prop} {ls : Lcl} {k : Nat} {v : Value} {K : Lcl → Option Rs} (h : ∀ l, Cl P (K l)) : Cl P (st1 ls k v K) := cl_gd fun _ => h _
theorem cl_st2 {P : Rs → Prop} {ls : Lcl} {k : Nat} {v : Value} {K : Lcl → Option Rs} (h : ∀ l, Cl P (K l)) : Cl P (st2 ls k v K) := cl_gd fun _ => h _
theorem cl_call {P : Rs → Prop} {σ : Sg} {a b d : Nat} {r : Option (List Value × List Value)} (h : ∀ z, P (.inr (.inl z))) : Cl P (doCall σ a b d r) := by
  unfold doCall
  split
  · split
    · split
      · exact cl_s (h _)
      · split
        · split
          · exact cl_s (h _)
          · exact cl_n
        · exact cl_n
    · exact cl_n
  · exact cl_n
theorem cl_spec {P : Rs → Prop} {a npc : Nat} {st : List Value} {ls : Lcl} {σ : Sg} {M : Mem} (h : ∀ st2, P (.inl (npc, ls, st2, σ, M))) : Cl P (spec a npc ls st σ M) := by
  unfold spec
  split
  · exact cl_pR fun _ _ => cl_gd fun _ => cl_go (h _)
  · split
    · exact cl_pI fun _ _ => cl_pI fun _ _ => cl_gd fun _ => cl_go (h _)
    · split
      · exact cl_pI fun _ _ => cl_pI fun _ _ => cl_gd fun _ => cl_go (h _)
      · exact cl_pF fun _ _ => cl_gd fun _ => cl_go (h _)
def isRt (y : Rs) : Prop := match y with
  | .inr (.inr _) => False
  | _ => True
theorem stA_ret {ins : Instr} {npc a b d : Nat} {cv : Value} {sw : List (Int32 × Nat)} {ls : Lcl} {st : List Value} {σ : Sg} {M : Mem} {v : Option Value} (h : stA ins npc a b d cv sw ls st σ M = some (.inr (.inr v))) : (ins = .ireturn ∧ ∃ x, st = [.int x] ∧ v = some (.int x) ∧ okR cv x = true) ∨ (ins = .return_ ∧ st = [] ∧ v = none) ∨ (ins = .lreturn ∧ ∃ x, st = [.long x] ∧ v = some (.long x)) := by
  have key : ins = .ireturn ∨ ins = .return_ ∨ ins = .lreturn ∨ Cl isRt (stA ins npc a b d cv sw ls st σ M) := by
    cases ins
    case ireturn => exact Or.inl rfl
    case return_ => exact Or.inr (Or.inl rfl)
    case lreturn => exact Or.inr (Or.inr (Or.inl rfl))
    all_goals refine Or.inr (Or.inr (Or.inr ?_))
    all_goals simp only [stA]
    all_goals first
      | exact cl_go trivial
      | exact cl_n
      | exact cl_call fun _ => trivial
      | (refine cl_ldI fun _ => ?_; first | exact cl_go trivial | exact cl_st1 fun _ => cl_go trivial)
      | exact cl_ldA fun _ => cl_go trivial
      | exact cl_ldG fun _ => cl_go trivial
      | exact cl_ldF fun _ => cl_go trivial
      | (refine cl_pI fun _ _ => ?_; first | exact cl_go trivial | exact cl_st1 fun _ => cl_go trivial | exact cl_pI fun _ _ => cl_go trivial | exact cl_pI fun _ _ => cl_gd fun _ => cl_go trivial | exact cl_pR fun _ _ => cl_gd fun _ => cl_ixI fun _ => cl_go trivial | exact cl_pI fun _ _ => cl_pR fun _ _ => cl_gd fun _ => cl_ixI fun _ => cl_go trivial | exact cl_gd fun _ => cl_ixI fun _ => cl_go trivial)
      | (refine cl_pR fun _ _ => ?_; first | exact cl_go trivial | exact cl_st1 fun _ => cl_go trivial | exact cl_gd fun _ => cl_go trivial | exact cl_pI fun _ _ => cl_pR fun _ _ => cl_gd fun _ => cl_ixI fun _ => cl_go trivial)
      | (refine cl_pF fun _ _ => ?_; first | exact cl_go trivial | exact cl_st1 fun _ => cl_go trivial | exact cl_pF fun _ _ => cl_go trivial | exact cl_pF fun _ _ => cl_gd fun _ => cl_go trivial)
      | (refine cl_pG fun _ _ => ?_; first | exact cl_go trivial | exact cl_st2 fun _ => cl_go trivial | exact cl_pG fun _ _ => cl_go trivial | exact cl_pG fun _ _ => cl_gd fun _ => cl_go trivial)
      | (refine cl_pV fun _ _ => ?_; first | exact cl_go trivial | exact cl_pV fun _ _ => cl_go trivial)
      | exact cl_gd fun _ => cl_go trivial
      | (unfold putF; split; · exact cl_pR fun _ _ => cl_pR fun _ _ => cl_gd fun _ => cl_go trivial
         · exact cl_pI fun _ _ => cl_pR fun _ _ => cl_gd fun _ => cl_go trivial)
      | (split
         · exact cl_call fun _ => trivial
         · exact cl_spec fun _ => trivial)
  rcases key with rfl | rfl | rfl | hk
  · refine Or.inl ⟨rfl, ?_⟩
    simp only [stA] at h
    split at h
    · rename_i x
      obtain ⟨h1, h2⟩ := gd_some h
      cases h2
      exact ⟨x, rfl, rfl, h1⟩
    · cases h
  · refine Or.inr (Or.inl ⟨rfl, ?_⟩)
    simp only [stA] at h
    split at h
    · cases h
      exact ⟨rfl, rfl⟩
    · cases h
  · refine Or.inr (Or.inr ⟨rfl, ?_⟩)
    simp only [stA] at h
    split at h
    · rename_i x
      cases h
      exact ⟨x, rfl, rfl⟩
    · cases h
  · exact (hk _ h).elim
/-- fixed rows stay -/
def RO (σ : Sg) (M : Mem) (σ1 : Sg) (M1 : Mem) : Prop := (∀ i, sT σ1 i = 9 ↔ sT σ i = 9) ∧ (∀ i, sT σ i = 9 → sL σ1 i = sL σ i ∧ M1 i = M i)
theorem RO.rf {σ : Sg} {M : Mem} : RO σ M σ M := ⟨fun _ => Iff.rfl, fun _ _ => ⟨rfl, rfl⟩⟩
theorem RO.tr {σ σ1 σ2 : Sg} {M M1 M2 : Mem} (h : RO σ M σ1 M1) (h2 : RO σ1 M1 σ2 M2) : RO σ M σ2 M2 :=
  ⟨fun i => (h2.1 i).trans (h.1 i), fun i hi => ⟨((h2.2 i ((h.1 i).mpr hi)).1).trans (h.2 i hi).1, ((h2.2 i ((h.1 i).mpr hi)).2).trans (h.2 i hi).2⟩⟩
theorem RO.m {σ : Sg} {M : Mem} {o : Nat} {f : Nat → Int32} (h : sT σ o ≠ 9) : RO σ M σ (upM M o f) := ⟨fun _ => Iff.rfl, fun i hi => ⟨rfl, upM_n fun e => h (by rw [← e]; exact hi)⟩⟩
theorem RO.a {σ : Sg} {M : Mem} {t l k : Nat} {f : Nat → Int32} (h : ¬ sT σ (sN σ) = 9) (ht : t ≠ 9) : RO σ M (alloc σ t l k) (upM M (sN σ) f) := by
  have hne : ∀ i, sT σ i = 9 → i ≠ sN σ := fun i hi e => h (by rw [← e]; exact hi)
  refine ⟨fun i => ?_, fun i hi => ⟨upM_n (hne i hi), upM_n (hne i hi)⟩⟩
  rw [sT_al]
  by_cases e : i = sN σ
  · subst e
    rw [upM_s]
    exact ⟨fun q => absurd q ht, fun q => absurd q h⟩
  · rw [upM_n e]
def isRO (σ : Sg) (M : Mem) (y : Rs) : Prop := match y with
  | .inl (_, _, _, σ1, M1) => RO σ M σ1 M1
  | _ => True
theorem stA_ro {ins : Instr} {npc a b d : Nat} {cv : Value} {sw : List (Int32 × Nat)} {ls : Lcl} {st : List Value} {σ : Sg} {M : Mem} (ha : (∃ k, ins = .putfield k) ∨ (∃ k, ins = .new k) → a ≠ 9) : Cl (isRO σ M) (stA ins npc a b d cv sw ls st σ M) := by
  have t0 : ∀ {pc : Nat} {l2 : Lcl} {s2 : List Value}, isRO σ M (.inl (pc, l2, s2, σ, M)) := RO.rf
  cases ins
  case putfield k =>
    have h9 := ha (Or.inl ⟨k, rfl⟩)
    simp only [stA]
    unfold putF
    split
    · exact cl_pR fun _ _ => cl_pR fun _ _ => cl_gd fun _ => cl_go ⟨fun _ => Iff.rfl, fun _ _ => ⟨rfl, rfl⟩⟩
    · exact cl_pI fun _ _ => cl_pR fun _ _ => cl_gd fun h => cl_go (RO.m (by rw [h.1]; exact h9))
  case new k =>
    have h9 := ha (Or.inr ⟨k, rfl⟩)
    simp only [stA]
    exact cl_gd fun h => cl_go (RO.a h h9)
  case newarray k =>
    simp only [stA]
    exact cl_pI fun _ _ => cl_gd fun h => cl_ixI fun _ => cl_go (RO.a h (by split <;> decide))
  case anewarray k =>
    simp only [stA]
    exact cl_pI fun _ _ => cl_gd fun h => cl_ixI fun _ => cl_go (RO.a h (by decide))
  case iastore =>
    simp only [stA]
    exact cl_pI fun _ _ => cl_pI fun _ _ => cl_pR fun _ _ => cl_gd fun h => cl_ixI fun _ => cl_go (RO.m (by omega))
  case castore =>
    simp only [stA]
    exact cl_pI fun _ _ => cl_pI fun _ _ => cl_pR fun _ _ => cl_gd fun h => cl_ixI fun _ => cl_go (RO.m (by omega))
  case aastore =>
    simp only [stA]
    exact cl_pR fun _ _ => cl_pI fun _ _ => cl_pR fun _ _ => cl_gd fun h => cl_ixI fun _ => cl_go ⟨fun _ => Iff.rfl, fun _ _ => ⟨rfl, rfl⟩⟩
  case ireturn =>
    simp only [stA]
    split
    · exact cl_gd fun _ => cl_s trivial
    · exact cl_n
  case return_ =>
    simp only [stA]
    split
    · exact cl_s trivial
    · exact cl_n
  case lreturn =>
    simp only [stA]
    split
    · exact cl_s trivial
    · exact cl_n
  all_goals simp only [stA]
  all_goals first
    | exact cl_go t0
    | exact cl_n
    | exact cl_call fun _ => trivial
    | (refine cl_ldI fun _ => ?_; first | exact cl_go t0 | exact cl_st1 fun _ => cl_go t0)
    | exact cl_ldA fun _ => cl_go t0
    | exact cl_ldG fun _ => cl_go t0
    | exact cl_ldF fun _ => cl_go t0
    | (refine cl_pI fun _ _ => ?_; first | exact cl_go t0 | exact cl_st1 fun _ => cl_go t0 | exact cl_pI fun _ _ => cl_go t0 | exact cl_pI fun _ _ => cl_gd fun _ => cl_go t0 | exact cl_pR fun _ _ => cl_gd fun _ => cl_ixI fun _ => cl_go t0)
    | (refine cl_pR fun _ _ => ?_; first | exact cl_go t0 | exact cl_st1 fun _ => cl_go t0 | exact cl_gd fun _ => cl_go t0)
    | (refine cl_pF fun _ _ => ?_; first | exact cl_go t0 | exact cl_st1 fun _ => cl_go t0 | exact cl_pF fun _ _ => cl_go t0 | exact cl_pF fun _ _ => cl_gd fun _ => cl_go t0)
    | (refine cl_pG fun _ _ => ?_; first | exact cl_go t0 | exact cl_st2 fun _ => cl_go t0 | exact cl_pG fun _ _ => cl_go t0 | exact cl_pG fun _ _ => cl_gd fun _ => cl_go t0)
    | (refine cl_pV fun _ _ => ?_; first | exact cl_go t0 | exact cl_pV fun _ _ => cl_go t0)
    | exact cl_gd fun _ => cl_go t0
    | (split
       · exact cl_call fun _ => trivial
       · exact cl_spec fun _ => t0)
theorem good_a9 {m pc npc a b d w : Nat} {ins : Instr} {cv : Value} {sw : List (Int32 × Nat)} (h : good m (pc, ins, npc, a, b, d, w, cv, sw) = true) : (∃ k, ins = .putfield k) ∨ (∃ k, ins = .new k) → a ≠ 9 := by
  rintro (⟨k, rfl⟩ | ⟨k, rfl⟩) <;> (simp only [good, Bool.and_eq_true, decide_eq_true_eq] at h; omega)
theorem exec_ro : ∀ {f m pc : Nat} {ls : Lcl} {st : List Value} {σ : Sg} {M : Mem} {r : Option Value} {σ1 : Sg} {M1 : Mem}, exec f m pc ls st σ M = some (r, σ1, M1) → RO σ M σ1 M1
  | 0, _, _, _, _, _, _, _, _, _, h => by simp [exec] at h
  | f + 1, m, pc, ls, st, σ, M, r, σ1, M1, h => by
    rw [exec] at h
    split at h
    · cases h
    · rename_i he
      split at h
      · cases h
      · rename_i hs
        exact RO.tr (stA_ro (good_a9 (fe_good he)) _ hs) (exec_ro h)
      · split at h
        · cases h
        · rename_i hc
          exact RO.tr (exec_ro hc) (exec_ro h)
      · cases h
        exact RO.rf
theorem exec_ret : ∀ {f m pc : Nat} {ls : Lcl} {st : List Value} {σ : Sg} {M : Mem} {r : Option Value} {σ1 : Sg} {M1 : Mem}, exec f m pc ls st σ M = some (r, σ1, M1) → (r = none ∧ mR m = none) ∨ (∃ v, r = some (.int v) ∧ mR m ≠ none) ∨ (∃ v, r = some (.long v) ∧ mR m ≠ none)
  | 0, _, _, _, _, _, _, _, _, _, h => by simp [exec] at h
  | f + 1, m, pc, ls, st, σ, M, r, σ1, M1, h => by
    rw [exec] at h
    split at h
    · cases h
    · rename_i he
      split at h
      · cases h
      · exact exec_ret h
      · split at h
        · cases h
        · exact exec_ret h
      · rename_i hs
        cases h
        have hg := fe_good he
        rcases stA_ret hs with ⟨rfl, x, -, rfl, -⟩ | ⟨rfl, -, rfl⟩ | ⟨rfl, x, -, rfl⟩
        · simp only [good, Bool.and_eq_true, decide_eq_true_eq] at hg
          refine Or.inr (Or.inl ⟨x, rfl, ?_⟩)
          rcases hg.2.2 with q | q | q <;> (rw [q.2]; decide)
        · simp only [good, Bool.and_eq_true, decide_eq_true_eq] at hg
          exact Or.inl ⟨rfl, hg.2.2⟩
        · simp only [good, Bool.and_eq_true, decide_eq_true_eq] at hg
          refine Or.inr (Or.inr ⟨x, rfl, ?_⟩)
          rw [hg.2.2]; decide
theorem doCall_some {σ : Sg} {a b d : Nat} {r : Option (List Value × List Value)} {x : Rs} (h : doCall σ a b d r = some x) : ∃ args rest, r = some (args, rest) ∧ le4 rest = true ∧ noL args = true ∧ x = .inr (.inl (a, iniL args b, rest)) ∧ (d ≠ 0 → ∃ o tl, args = .ref o :: tl ∧ sT σ o = d) := by
  unfold doCall at h
  split at h
  · rename_i args rest
    split at h
    · rename_i hc
      simp only [Bool.and_eq_true] at hc
      split at h
      · rename_i h0
        cases h
        exact ⟨args, rest, rfl, hc.1, hc.2, rfl, fun q => absurd h0 q⟩
      · split at h
        · rename_i o tl
          split at h
          · rename_i ht
            cases h
            exact ⟨_, rest, rfl, hc.1, hc.2, rfl, fun _ => ⟨o, tl, rfl, ht⟩⟩
          · cases h
        · cases h
    · cases h
  · cases h
def rmM (j mc ms : Nat) : Room := { frames := mK j, cells := mc, slots := ms, locals := 36 * mK j }
def PB (G : PG) (ad : Nat → Nat) (σ : Sg) (M : Mem) (U : State) : Prop := HP G ad σ M U.heap ∧ KU G U ∧ ZU G ad σ M U U.heap ∧ G.2.2.2.2 ≤ U.heap.size
theorem noL_cat {v : Value} {r : List Value} (h : noL (v :: r) = true) : v.category ≠ 2 ∧ noL r = true := by
  cases v <;> simp_all [noL, Value.category]
theorem lg_cons {v : Value} {r : List Value} (h : v.category ≠ 2) : lg_sl (v :: r) = .val v :: lg_sl r := by
  unfold lg_sl
  rw [List.flatMap_cons, if_neg h]
  rfl
theorem noL_len {ad : Nat → Nat} : ∀ {vs : List Value}, noL vs = true → (lg_sl (vs.map (amap ad))).length = vs.length
  | [], _ => rfl
  | u :: r, h => by
    obtain ⟨h1, h2⟩ := noL_cat h
    rw [List.map_cons, lg_cons (by rw [cat_amap]; exact h1), List.length_cons, noL_len h2, List.length_cons]
theorem lget_rep : ∀ {b k : Nat} {v : Value}, lget (List.replicate b none) k = some v → False
  | 0, _, _, h => by simp [lget] at h
  | b + 1, 0, _, h => by simp [List.replicate, lget] at h
  | b + 1, k + 1, v, h => lget_rep (b := b) (k := k) (v := v) (by simpa [List.replicate, lget] using h)
theorem mem_args {ad : Nat → Nat} {b : Nat} : ∀ {vs : List Value} {i k : Nat} {v : Value}, noL vs = true → lget (iniL vs b) k = some v → (i + k, amap ad v) ∈ lv_args i (vs.map (amap ad))
  | [], i, k, v, _, h => (lget_rep (b := b) (k := k) (v := v) (by simpa [iniL] using h)).elim
  | u :: r, i, 0, v, hn, h => by
    have e : u = v := by simpa [iniL, lget] using h
    subst e
    exact List.mem_cons_self
  | u :: r, i, k + 1, v, hn, h => by
    obtain ⟨h1, h2⟩ := noL_cat hn
    have ih := mem_args (ad := ad) (vs := r) (i := i + 1) (k := k) (v := v) h2 (by simpa [iniL, lget] using h)
    rw [List.map_cons, lv_args, if_neg (by rw [cat_amap]; exact h1), show i + (k + 1) = i + 1 + k by omega]
    exact List.mem_cons_of_mem _ ih
theorem okL_ini {σ : Sg} {b : Nat} : ∀ {vs : List Value}, okS σ vs → okL σ (iniL vs b)
  | [], _ => fun k v h => (lget_rep (b := b) (k := k) (v := v) (by simpa [iniL] using h)).elim
  | u :: r, h => fun k v hk => by
    cases k with
    | zero =>
      have e : u = v := by simpa [iniL, lget] using hk
      exact e ▸ okS_h h
    | succ k => exact okL_ini (okS_t h) k v (by simpa [iniL, lget] using hk)
theorem narrow_ret {j : Nat} {cv : Value} {x : Int32} {ty : FieldType} (hg : (cv = .int (nI 0) ∧ mR j = some .int) ∨ (cv = .int (nI 1) ∧ mR j = some .boolean) ∨ (cv = .int (nI 2) ∧ mR j = some .char)) (hx : okR cv x = true) (ht : mR j = some ty) : narrow ty (.int x) = .int x := by
  rcases hg with ⟨rfl, q⟩ | ⟨rfl, q⟩ | ⟨rfl, q⟩
  · cases q.symm.trans ht
    rfl
  · cases q.symm.trans ht
    have h2 : x = 0 ∨ x = 1 := by
      have h3 : okB x = true := by simpa [okR, show ¬ nI 1 = 0 from by decide, show nI 1 = 1 from by decide] using hx
      simpa [okB] using h3
    rcases h2 with rfl | rfl <;> rfl
  · cases q.symm.trans ht
    have h3 : okC x = true := by simpa [okR, show ¬ nI 2 = 0 from by decide, show ¬ nI 2 = 1 from by decide] using hx
    have h4 : (x.toUInt32 % 65536).toInt32 = x := by simpa [okC] using h3
    have := pk_nc x
    rw [h4] at this
    exact this
set_option maxHeartbeats 2000000 in
/-- a run of a method, as the method's contract: its entry -/
theorem met_in {f j b : Nat} (hF : FS f) {vs : List Value} {σ σ1 : Sg} {M M1 : Mem} {r : Option Value} (hex : exec f j 0 (iniL vs b) [] σ M = some (r, σ1, M1)) (hgm : GM j) (hb : vs.length + b = mL j) (hnl : noL vs = true) (hwf : wfS σ) (hos : okS σ vs) (G : PG) (ad : Nat → Nat) (l : Launch) (Qc : Array Value → State → Outcome → State → Prop)
    (hq : ∀ (s t : State) (a : Array Value) (ad2 : Nat → Nat), AG σ ad ad2 → wfS σ1 → HP G ad2 σ1 M1 t.heap → va_F (AA G) s t → Qc a s (.returned r) t) :
    Met l (mY j) (wsM j) (rmM j (sN σ1 - sN σ) (sS σ1 - sS σ)) (va_Pc (vs.map (amap ad)) (PB G ad σ M)) Qc (sN σ1 - sN σ) (sS σ1 - sS σ) (AA G) := by
  have hgr := exec_grow hex
  refine MetFree.of_bodySF (code := mB j) (maxLocals := mL j) (ret := mR j) hgm.2.2.2.1 ?_ ?_
  · intro args s m h hn
    obtain ⟨meth, c, h1, h2, h3, h4, h5, h6, -, -⟩ := Cond.code_spec hn (atoms_spec (ws := wsM j) h _ List.mem_cons_self)
    exact ⟨meth, c, h1, h2, h3, h4, h5, h6⟩
  · intro p e s m args below meth c s₁ B hml hv _
    obtain ⟨rfl, hHP, hKU, hZU, hz⟩ := hv
    have hts := atoms_spec (ws := wsM j) B.pre
    have hown : s.vm.findClass (mO j) = some m.cls := findClass_of_methodNamed B.named
    have hh0 : s₁.heap = s.heap := by rw [B.state]; rfl
    have hlen : (lg_sl (vs.map (amap ad))).length ≤ mL j := by rw [noL_len hnl]; omega
    have hl := lv_entry (vs.map (amap ad)) (n := mL j) hlen
    have K : W p l e (rmM j (sN σ1 - sN σ) (sS σ1 - sS σ)) s m (vs.map (amap ad)).toArray below meth c s.heap [] 0 0 (MQ below Qc (vs.map (amap ad)).toArray s (sN σ1 - sN σ) (sS σ1 - sS σ) (AA G)) (entryFrame m (vs.map (amap ad)).toArray (mL j)) := by
      rw [lg_entry_eq]
      generalize (lg_sl (vs.map (amap ad)) ++ List.replicate (mL j - (lg_sl (vs.map (amap ad))).length) Slot.unset).toArray = lsr at hl ⊢
      refine hF j 0 (iniL vs b) [] σ M r σ1 M1 hex G p l e (rmM j (sN σ1 - sN σ) (sS σ1 - sS σ)) s m _ below meth c _ ⟨B.exec, B.bytes, hml, hown, fun w hw => hts w (List.mem_cons_of_mem _ hw), hKU, fun h => ((name_of_methodNamed B.named B.method).1).trans h, Nat.le_refl _, Nat.le_refl _, hz⟩ ad s.heap [] 0 0 lsr ⟨hHP, hZU, va_S.rf, hwf, okS_n, okL_ini hos, ?_, ?_⟩ ?_ ?_ ?_
      · refine lv_mono hl fun q hq => ?_
        obtain ⟨v, h1, h2⟩ := mem_asc.mp hq
        have h3 := mem_args (ad := ad) (i := 0) hnl h1
        rw [Nat.zero_add, ← h2] at h3
        exact h3
      · simp only [iniL, List.length_append, List.length_map, List.length_replicate]
        exact hb
      · show 0 + sN σ1 ≤ sN σ1 - sN σ + sN σ
        omega
      · show 0 + sS σ1 ≤ sS σ1 - sS σ + sS σ
        omega
      · intro pc2 npc a b d w ins cv sw lsr2 H2 locs2 ad2 he hr hHP2 hag hS2 hwf2
        have hg := fe_good he
        have hd := dec_of_good hg
        rcases hr with ⟨v, rfl, rfl, hok⟩ | ⟨rfl, rfl⟩ | ⟨v, rfl, rfl⟩
        · simp only [good, Bool.and_eq_true, decide_eq_true_eq] at hg
          obtain ⟨-, rfl, hcv⟩ := hg
          rw [Nat.add_sub_cancel_left] at hd
          obtain ⟨ty, hty⟩ : ∃ ty, mR j = some ty := by rcases hcv with q | q | q <;> exact ⟨_, q.2⟩
          exact W.zret (ty := ty) B.exec B.bytes (B.returns.trans hty) (narrow_ret hcv hok hty) (fun t ht _ => hq s t _ ad2 hag hwf2 (by rw [ht]; exact hHP2) (hS2.F ht)) hS2.2.2 hd (hlocks := B.notSynchronized)
        · simp only [good, Bool.and_eq_true, decide_eq_true_eq] at hg
          obtain ⟨-, rfl, hcv⟩ := hg
          rw [Nat.add_sub_cancel_left] at hd
          exact W.vret B.exec B.bytes (B.returns.trans hcv) (fun t ht _ => hq s t _ ad2 hag hwf2 (by rw [ht]; exact hHP2) (hS2.F ht)) hS2.2.2 hd (hlocks := B.notSynchronized)
        · simp only [good, Bool.and_eq_true, decide_eq_true_eq] at hg
          obtain ⟨-, rfl, hcv⟩ := hg
          rw [Nat.add_sub_cancel_left] at hd
          exact W.lret B.exec B.bytes (B.returns.trans hcv) (fun t ht _ => hq s t _ ad2 hag hwf2 (by rw [ht]; exact hHP2) (hS2.F ht)) hS2.2.2 hd (hlocks := B.notSynchronized)
    obtain ⟨t, a1, o, b1, b2, b3⟩ := K s₁ hh0 (Stand.of_body B)
    exact ⟨t, o, a1, b1, b2, ⟨b3.1, b3.2⟩⟩
theorem PB.blind {G : PG} {ad : Nat → Nat} {σ : Sg} {M : Mem} {avs : List Value} : FrameBlind (va_Pc avs (PB G ad σ M)) := fun a U g mk h => by
  obtain ⟨h0, h1, h2, h3, h4⟩ := h
  exact ⟨h0, h1, KU.same (u := U) rfl h2, ZU.moved (u := U) (Vm.Alike.refl U.vm) h3, h4⟩
/-- behind a call: the frame goes on -/
theorem fs_back {f : Nat} (ih : FS f) {m npc : Nat} {ls : Lcl} {st rest : List Value} {σ σ2 σ1 : Sg} {M M2 M1 : Mem} {r1 r : Option Value} {j : Nat} {ls1 : Lcl} (hc : exec f j 0 ls1 [] σ M = some (r1, σ2, M2)) (hex : exec f m npc ls (pushR r1 rest) σ2 M2 = some (r, σ1, M1))
    {G : PG} {p : Program} {l : Launch} {e : Env} {R : Room} {s : State} {mid : MethodId} {args : Array Value} {below : List Frame} {meth : Method} {c : Code} {Q : State → Prop} (hC : CF G p R s mid args meth c m)
    {ad : Nat → Nat} {H : Heap} {locs : List Jvm.Loc} {cells slots : Nat} {lsr : Array Slot} (hY : DY G s m ad ls st σ M H locs lsr) (hrest : okS σ rest) (hcl : cells + sN σ1 ≤ R.cells + sN σ) (hsl : slots + sS σ1 ≤ R.slots + sS σ)
    (hE : ∀ (pc2 npc a b d w : Nat) (ins : Instr) (cv : Value) (sw : List (Int32 × Nat)) (lsr2 : Array Slot) (H2 : Heap) (locs2 : List Jvm.Loc) (ad2 : Nat → Nat), fe (mC m) pc2 = some (ins, npc, a, b, d, w, cv, sw) → RT ins r cv → HP G ad2 σ1 M1 H2 → AG σ ad ad2 → va_S (AA G) s.heap H2 locs2 → wfS σ1 → W p l e R s mid args below meth c H2 locs2 R.cells R.slots Q (F0 mid pc2 lsr2 r.toList))
    {u : Nat → Nat} {H1 : Heap} {locs1 : List Jvm.Loc} (hag : AG σ ad u) (hwf2 : wfS σ2) (hHP : HP G u σ2 M2 H1) (hS1 : va_S (AA G) s.heap H1 locs1) :
    W p l e R s mid args below meth c H1 locs1 (cells + (sN σ2 - sN σ)) (slots + (sS σ2 - sS σ)) Q (F0 mid npc lsr (r1.toList ++ rest.map (amap ad))) := by
  obtain ⟨-, hZ, -, hwf, -, hol, hl, hlen⟩ := id hY
  have hro := exec_ro hc
  have hg1 := exec_grow hc
  have hg2 := exec_grow hex
  have h9 : ∀ i, sT σ i = 9 → sT σ2 i = 9 := fun i hi => (hro.1 i).mpr hi
  have hok : okS σ2 (pushR r1 rest) := by
    rcases exec_ret hc with ⟨rfl, -⟩ | ⟨v, rfl, -⟩ | ⟨v, rfl, -⟩
    · exact okS_to hg1.1 h9 hrest
    · exact okS_c okV_i (okS_to hg1.1 h9 hrest)
    · exact okS_c okV_l (okS_to hg1.1 h9 hrest)
  have key := ih m npc ls (pushR r1 rest) σ2 M2 r σ1 M1 hex G p l e R s mid args below meth c Q hC u H1 locs1 (cells + (sN σ2 - sN σ)) (slots + (sS σ2 - sS σ)) lsr ⟨hHP, hZ.to hro.1 (fun i hi => ⟨hag i (Or.inr hi), hro.2 i hi⟩), hS1, hwf2, hok, okL_to hg1.1 h9 hol, asc_ag hag hol hl, hlen⟩ (by omega) (by omega) (fun pc2 npc a b d w ins cv sw lsr2 H2 locs2 ad2 g1 g2 g3 g4 g5 g6 => hE pc2 npc a b d w ins cv sw lsr2 H2 locs2 ad2 g1 g2 g3 (fun k hk => (g4 k (hk.elim (fun q => Or.inl (Nat.lt_of_lt_of_le q hg1.1)) (fun q => Or.inr (h9 k q)))).trans (hag k hk)) g5 g6)
  rcases exec_ret hc with ⟨rfl, -⟩ | ⟨v, rfl, -⟩ | ⟨v, rfl, -⟩
  · rw [show pushR none rest = rest from rfl, amap_agS hag hrest] at key
    exact key
  · rw [show pushR (some (.int v)) rest = .int v :: rest from rfl, List.map_cons, amap_agS hag hrest] at key
    exact key
  · rw [show pushR (some (.long v)) rest = .long v :: rest from rfl, List.map_cons, amap_agS hag hrest] at key
    exact key
theorem gi_wsV {j idx m : Nat} (h1 : Cond.methodLink (mO m) idx (mY j) ∈ lw_tbl) (hgm : GM j) (h2 : Cond.instanceMethod (mY j) ∈ lw_tbl) (h3 : Cond.selects (mY j).cls (mY j) (mY j) ∈ lw_tbl) : GoodIn lwG (wsV (mO m) idx (mY j).cls (mY j) (wsM j)) := fun w hw => by
  unfold wsV at hw
  rcases List.mem_append.mp hw with hw | hw
  · simp only [List.mem_cons, List.not_mem_nil, or_false] at hw
    rcases hw with rfl | rfl | rfl | rfl
    · exact ⟨lwG_of h1 rfl, good_of_word rfl⟩
    · exact ⟨lwG_of h2 rfl, good_of_word rfl⟩
    · exact ⟨lwG_of h3 rfl, good_of_word rfl⟩
    · exact ⟨lwG_of hgm.2.1 rfl, good_of_word rfl⟩
  · exact gi_wsM hgm.1 w hw
theorem gi_wsS {j idx m : Nat} (h1 : Cond.methodLink (mO m) idx (mY j) ∈ lw_tbl) (hgm : GM j) (h2 : Cond.static (mY j) ∈ lw_tbl) : GoodIn lwG (va_wsS (mO m) idx (mY j) (wsM j)) := fun w hw => by
  unfold va_wsS at hw
  rcases List.mem_append.mp hw with hw | hw
  · simp only [List.mem_cons, List.not_mem_nil, or_false] at hw
    rcases hw with rfl | rfl | rfl
    · exact ⟨lwG_of h1 rfl, good_of_word rfl⟩
    · exact ⟨lwG_of h2 rfl, good_of_word rfl⟩
    · exact ⟨lwG_of hgm.2.1 rfl, good_of_word rfl⟩
  · exact gi_wsM hgm.1 w hw
/-- the stack at a call -/
theorem st_call {ad : Nat → Nat} {st rest args : List Value} {n : Nat} (h : popA n st [] = some (args, rest)) : st = args.reverse ++ rest ∧ args.length = n := by
  obtain ⟨q, h1, h2, h3⟩ := popA_some h
  rw [List.append_nil] at h2
  subst h2
  exact ⟨by rw [List.reverse_reverse]; exact h1, by rw [List.length_reverse]; exact h3⟩
set_option maxHeartbeats 4000000 in
theorem fs_invokevirtual {f : Nat} (ih : FS f) (idx : Nat) : FSat f (.invokevirtual idx) := by
  intro m pc npc a b d w cv sw ls st σ M r σ1 M1 he hex G p l e R s mid args below meth c Q hC ad H locs cells slots lsr hY hcl hsl hE
  obtain ⟨hx, hb, hml, hown, hts, hKU, hini, hfr, hlo, hz⟩ := id hC
  obtain ⟨⟨hP, hD⟩, hZ, hS, hwf, hos, hol, hl, hlen⟩ := id hY
  have hg := fe_good he
  have hk := fe_link he
  have hd := dec_of_good hg
  rw [exec, he] at hex
  dsimp only at hex
  simp only [good, Bool.and_eq_true, decide_eq_true_eq] at hg
  cases hs : stA (.invokevirtual idx) npc a b d cv sw ls st σ M with
  | none => rw [hs] at hex; cases hex
  | some res =>
  rw [hs] at hex
  obtain ⟨-, ⟨⟨⟨rfl, ha9⟩, hd10, hd8⟩, hrank⟩, hab0⟩ := hg
  rw [Nat.add_sub_cancel_left] at hd
  simp only [stA] at hs
  simp only [LkP] at hk
  have hgm := hk.2.2.1
  have hab : nOf cv + b = mL a := by
    unfold argN at hab0
    split at hab0
    · exact (of_decide_eq_true hab0).2
    · cases hab0
  obtain ⟨vs, rest, hp, hle, hnl, rfl, hrc⟩ := doCall_some hs
  obtain ⟨hst, hn⟩ := st_call (ad := ad) hp
  have hrest : okS σ rest := fun v hv => hos v (by rw [hst]; exact List.mem_append_right _ hv)
  have hvs : okS σ vs := fun v hv => hos v (by rw [hst]; exact List.mem_append_left _ (List.mem_reverse.mpr hv))
  have hex2 : (match exec f a 0 (iniL vs b) [] σ M with
    | none => none
    | some (r, σ1, M1) => exec f m (pc + 3) ls (pushR r rest) σ1 M1) = some (r, σ1, M1) := hex
  cases hc : exec f a 0 (iniL vs b) [] σ M with
  | none => rw [hc] at hex2; cases hex2
  | some res2 =>
  obtain ⟨r2, σ2, M2⟩ := res2
  rw [hc] at hex2
  have hg1 := exec_grow hc
  have hg2 := exec_grow hex2
  have hroom : (rmM a (sN σ2 - sN σ) (sS σ2 - sS σ)).frames + 1 ≤ R.frames ∧ 8 + (mL a + 11) + (rmM a (sN σ2 - sN σ) (sS σ2 - sS σ)).locals ≤ R.locals := by
    have hml17 := hgm.2.2.2.2.1
    refine ⟨?_, ?_⟩
    · show mK a + 1 ≤ R.frames
      omega
    · show 8 + (mL a + 11) + 36 * mK a ≤ R.locals
      omega
  have hspace : cells + (sN σ2 - sN σ) ≤ R.cells ∧ slots + (sS σ2 - sS σ) ≤ R.slots := ⟨by omega, by omega⟩
  have hU : ∀ U : State, U.heap = H → s.WarmedH U.vm → PB G ad σ M U := fun U hUH hW => ⟨by rw [hUH]; exact ⟨hP, hD⟩, hKU.warm hW, (ZU.moved hW.alike (ZU.kept hZ hS.2.1)) |> fun q => by rw [hUH]; exact q, by rw [hUH]; exact Nat.le_trans hz hS.1⟩
  
  obtain ⟨hcls, hlk, hgm, hi1, hi2, hnp⟩ := hk
  obtain ⟨o, tl, rfl, hto⟩ := hrc (by omega)
  have hbl : (Value.ref o :: tl).length + b = mL a := by rw [hn]; exact hab
  have ho : o < sN σ := okA_obj (okS_h hvs o rfl) (by omega)
  have hcw := cw_get (G := G) (ad := ad) (M := M) ho
  rw [ent_obj hto (by omega)] at hcw
  have hrecv := va_recv hKU.1 hP (vw_ok _ hd8) hcw
  have hcw2 := cwV (R := R) (s := s) (args := args) (own := mO m) (C := (mY a).cls) (index := idx) (y := mY a) (bytes := mB a) (maxL := mL a) (ret := mR a) (rm := rmM a (sN σ2 - sN σ) (sS σ2 - sS σ)) (mc := sN σ2 - sN σ) (ms := sS σ2 - sS σ) tl.length hts (gi_wsV hlk hgm hi1 hi2) rfl rfl rfl ⟨rfl, hgm.2.2.1.1, hgm.2.2.1.2, by
    have h1 : nP a = some (nOf cv - 1) := hnp
    rw [← hn] at h1
    exact h1⟩ hroom
  have hstk : st.map (amap ad) = (tl.map (amap ad)).reverse ++ .ref (ad o) :: rest.map (amap ad) := by rw [hst]; simp [amap]
  rw [hstk]
  
  rcases exec_ret hc with ⟨rfl, hnone⟩ | ⟨v, rfl, hsome⟩ | ⟨v, rfl, hsome⟩
  · have hM := met_in ih hc hgm hbl hnl hwf hvs G ad l (va_Qv (fun u : Nat → Nat => AG σ ad u ∧ wfS σ2) (fun u t => HP G u σ2 M2 t.heap) (AA G)) (fun s t _ ad2 q1 q2 q3 q4 => ⟨⟨ad2, rfl, ⟨q1, q2⟩, q3⟩, q4⟩)
    exact va_callv (va_runV (C := (mY a).cls) (b := ad o) (As := tl.map (amap ad)) (rest := rest.map (amap ad)) (nL := mL m) ⟨hx, hb, hml, hown, hts⟩ hM hcw2 ⟨PB.blind, by rw [hcls]; exact hrecv, fun U hUH hW => ⟨rfl, hU U hUH hW⟩⟩ rfl (List.length_map _) hl.1 rfl (lv_room (le4_cat hle)) hd hspace) hS (fun _ _ h => h) (fun _ h => h) (fun u t H1 locs1 ht hvm hw hB hz1 hk1 hS1 => fs_back ih hc hex2 hC hY hrest hcl hsl hE hw.1 hw.2 (by rw [← ht]; exact hB) hS1)
  · have hM := met_in ih hc hgm hbl hnl hwf hvs G ad l (va_Qi (fun (x : Int32) (u : Nat → Nat) => x = v ∧ AG σ ad u ∧ wfS σ2) (fun u t => HP G u σ2 M2 t.heap) (AA G)) (fun s t _ ad2 q1 q2 q3 q4 => ⟨⟨v, ad2, rfl, ⟨rfl, q1, q2⟩, q3⟩, q4⟩)
    exact va_calli (va_runV (C := (mY a).cls) (b := ad o) (As := tl.map (amap ad)) (rest := rest.map (amap ad)) (nL := mL m) ⟨hx, hb, hml, hown, hts⟩ hM hcw2 ⟨PB.blind, by rw [hcls]; exact hrecv, fun U hUH hW => ⟨rfl, hU U hUH hW⟩⟩ rfl (List.length_map _) hl.1 rfl (lv_room (le4_cat hle)) hd hspace) hS (fun _ _ h => h) (fun _ h => h) (fun x u t H1 locs1 ht hvm hw hB hz1 hk1 hS1 => by obtain ⟨rfl, hw1, hw2⟩ := hw; exact fs_back ih hc hex2 hC hY hrest hcl hsl hE hw1 hw2 (by rw [← ht]; exact hB) hS1)
  · have hM := met_in ih hc hgm hbl hnl hwf hvs G ad l (va_Ql (fun (x : Int64) (u : Nat → Nat) => x = v ∧ AG σ ad u ∧ wfS σ2) (fun u t => HP G u σ2 M2 t.heap) (AA G)) (fun s t _ ad2 q1 q2 q3 q4 => ⟨⟨v, ad2, rfl, ⟨rfl, q1, q2⟩, q3⟩, q4⟩)
    exact va_calll (va_runV (C := (mY a).cls) (b := ad o) (As := tl.map (amap ad)) (rest := rest.map (amap ad)) (nL := mL m) ⟨hx, hb, hml, hown, hts⟩ hM hcw2 ⟨PB.blind, by rw [hcls]; exact hrecv, fun U hUH hW => ⟨rfl, hU U hUH hW⟩⟩ rfl (List.length_map _) hl.1 rfl (lv_room (le4_cat hle)) hd hspace) hS (fun _ _ h => h) (fun _ h => h) (fun x u t H1 locs1 ht hvm hw hB hz1 hk1 hS1 => by obtain ⟨rfl, hw1, hw2⟩ := hw; exact fs_back ih hc hex2 hC hY hrest hcl hsl hE hw1 hw2 (by rw [← ht]; exact hB) hS1)
set_option maxHeartbeats 4000000 in
theorem fs_invokestatic {f : Nat} (ih : FS f) (idx : Nat) : FSat f (.invokestatic idx) := by
  intro m pc npc a b d w cv sw ls st σ M r σ1 M1 he hex G p l e R s mid args below meth c Q hC ad H locs cells slots lsr hY hcl hsl hE
  obtain ⟨hx, hb, hml, hown, hts, hKU, hini, hfr, hlo, hz⟩ := id hC
  obtain ⟨⟨hP, hD⟩, hZ, hS, hwf, hos, hol, hl, hlen⟩ := id hY
  have hg := fe_good he
  have hk := fe_link he
  have hd := dec_of_good hg
  rw [exec, he] at hex
  dsimp only at hex
  simp only [good, Bool.and_eq_true, decide_eq_true_eq] at hg
  cases hs : stA (.invokestatic idx) npc a b d cv sw ls st σ M with
  | none => rw [hs] at hex; cases hex
  | some res =>
  rw [hs] at hex
  obtain ⟨-, rfl, hg2⟩ := hg
  rw [Nat.add_sub_cancel_left] at hd
  simp only [stA] at hs
  by_cases hd0 : d = 0
  · subst hd0
    rw [if_pos rfl] at hg2
    simp only [Bool.and_eq_true, decide_eq_true_eq] at hg2
    obtain ⟨⟨ha9, hrank⟩, hab0⟩ := hg2
    rw [if_pos ha9] at hs
    simp only [LkP] at hk
    have hgm := hk.2.1
    have hab : nOf cv + b = mL a := by
      unfold argN at hab0
      split at hab0
      · exact (of_decide_eq_true hab0).2
      · cases hab0
  
    obtain ⟨vs, rest, hp, hle, hnl, rfl, hrc⟩ := doCall_some hs
    obtain ⟨hst, hn⟩ := st_call (ad := ad) hp
    have hrest : okS σ rest := fun v hv => hos v (by rw [hst]; exact List.mem_append_right _ hv)
    have hvs : okS σ vs := fun v hv => hos v (by rw [hst]; exact List.mem_append_left _ (List.mem_reverse.mpr hv))
    have hex2 : (match exec f a 0 (iniL vs b) [] σ M with
      | none => none
      | some (r, σ1, M1) => exec f m (pc + 3) ls (pushR r rest) σ1 M1) = some (r, σ1, M1) := hex
    cases hc : exec f a 0 (iniL vs b) [] σ M with
    | none => rw [hc] at hex2; cases hex2
    | some res2 =>
    obtain ⟨r2, σ2, M2⟩ := res2
    rw [hc] at hex2
    have hg1 := exec_grow hc
    have hg2 := exec_grow hex2
    have hroom : (rmM a (sN σ2 - sN σ) (sS σ2 - sS σ)).frames + 1 ≤ R.frames ∧ 8 + (mL a + 11) + (rmM a (sN σ2 - sN σ) (sS σ2 - sS σ)).locals ≤ R.locals := by
      have hml17 := hgm.2.2.2.2.1
      refine ⟨?_, ?_⟩
      · show mK a + 1 ≤ R.frames
        omega
      · show 8 + (mL a + 11) + 36 * mK a ≤ R.locals
        omega
    have hspace : cells + (sN σ2 - sN σ) ≤ R.cells ∧ slots + (sS σ2 - sS σ) ≤ R.slots := ⟨by omega, by omega⟩
    have hU : ∀ U : State, U.heap = H → s.WarmedH U.vm → PB G ad σ M U := fun U hUH hW => ⟨by rw [hUH]; exact ⟨hP, hD⟩, hKU.warm hW, (ZU.moved hW.alike (ZU.kept hZ hS.2.1)) |> fun q => by rw [hUH]; exact q, by rw [hUH]; exact Nat.le_trans hz hS.1⟩
  
    obtain ⟨hlk, hgm2, hi1, hnp⟩ := hk
    have hbl : vs.length + b = mL a := by rw [hn]; exact hab
    have hnp2 : nP a = some (vs.map (amap ad)).length := by rw [List.length_map, hn]; exact hnp
    have hstk : st.map (amap ad) = (vs.map (amap ad)).reverse ++ rest.map (amap ad) := by rw [hst]; simp
    rw [hstk]
    rcases hlk with hlk | hlk
    · rcases exec_ret hc with ⟨rfl, hnone⟩ | ⟨v, rfl, hsome⟩ | ⟨v, rfl, hsome⟩
      · have hM := met_in ih hc hgm hbl hnl hwf hvs G ad l (va_Qv (fun u : Nat → Nat => AG σ ad u ∧ wfS σ2) (fun u t => HP G u σ2 M2 t.heap) (AA G)) (fun s t _ ad2 q1 q2 q3 q4 => ⟨⟨ad2, rfl, ⟨q1, q2⟩, q3⟩, q4⟩)
        exact va_callv (va_runS (As := vs.map (amap ad)) (rest := rest.map (amap ad)) (nL := mL m) ⟨hx, hb, hml, hown, hts⟩ hM (va_cwS (R := R) (s := s) (args := args) (own := mO m) (index := idx) (y := mY a) (bytes := mB a) (maxL := mL a) (ret := mR a) (rm := rmM a (sN σ2 - sN σ) (sS σ2 - sS σ)) (mc := sN σ2 - sN σ) (ms := sS σ2 - sS σ) (vs.map (amap ad)).length hts (gi_wsS hlk hgm hi1) rfl rfl rfl ⟨hgm.2.2.1.1, hgm.2.2.1.2, hnp2⟩ hroom) ⟨PB.blind, fun U hUH hW => ⟨rfl, hU U hUH hW⟩⟩ rfl rfl hl.1 rfl (lv_room (le4_cat hle)) hd hspace) hS (fun _ _ h => h) (fun _ h => h) (fun u t H1 locs1 ht hvm hw hB hz1 hk1 hS1 => fs_back ih hc hex2 hC hY hrest hcl hsl hE hw.1 hw.2 (by rw [← ht]; exact hB) hS1)
      · have hM := met_in ih hc hgm hbl hnl hwf hvs G ad l (va_Qi (fun (x : Int32) (u : Nat → Nat) => x = v ∧ AG σ ad u ∧ wfS σ2) (fun u t => HP G u σ2 M2 t.heap) (AA G)) (fun s t _ ad2 q1 q2 q3 q4 => ⟨⟨v, ad2, rfl, ⟨rfl, q1, q2⟩, q3⟩, q4⟩)
        exact va_calli (va_runS (As := vs.map (amap ad)) (rest := rest.map (amap ad)) (nL := mL m) ⟨hx, hb, hml, hown, hts⟩ hM (va_cwS (R := R) (s := s) (args := args) (own := mO m) (index := idx) (y := mY a) (bytes := mB a) (maxL := mL a) (ret := mR a) (rm := rmM a (sN σ2 - sN σ) (sS σ2 - sS σ)) (mc := sN σ2 - sN σ) (ms := sS σ2 - sS σ) (vs.map (amap ad)).length hts (gi_wsS hlk hgm hi1) rfl rfl rfl ⟨hgm.2.2.1.1, hgm.2.2.1.2, hnp2⟩ hroom) ⟨PB.blind, fun U hUH hW => ⟨rfl, hU U hUH hW⟩⟩ rfl rfl hl.1 rfl (lv_room (le4_cat hle)) hd hspace) hS (fun _ _ h => h) (fun _ h => h) (fun x u t H1 locs1 ht hvm hw hB hz1 hk1 hS1 => by obtain ⟨rfl, hw1, hw2⟩ := hw; exact fs_back ih hc hex2 hC hY hrest hcl hsl hE hw1 hw2 (by rw [← ht]; exact hB) hS1)
      · have hM := met_in ih hc hgm hbl hnl hwf hvs G ad l (va_Ql (fun (x : Int64) (u : Nat → Nat) => x = v ∧ AG σ ad u ∧ wfS σ2) (fun u t => HP G u σ2 M2 t.heap) (AA G)) (fun s t _ ad2 q1 q2 q3 q4 => ⟨⟨v, ad2, rfl, ⟨rfl, q1, q2⟩, q3⟩, q4⟩)
        exact va_calll (va_runS (As := vs.map (amap ad)) (rest := rest.map (amap ad)) (nL := mL m) ⟨hx, hb, hml, hown, hts⟩ hM (va_cwS (R := R) (s := s) (args := args) (own := mO m) (index := idx) (y := mY a) (bytes := mB a) (maxL := mL a) (ret := mR a) (rm := rmM a (sN σ2 - sN σ) (sS σ2 - sS σ)) (mc := sN σ2 - sN σ) (ms := sS σ2 - sS σ) (vs.map (amap ad)).length hts (gi_wsS hlk hgm hi1) rfl rfl rfl ⟨hgm.2.2.1.1, hgm.2.2.1.2, hnp2⟩ hroom) ⟨PB.blind, fun U hUH hW => ⟨rfl, hU U hUH hW⟩⟩ rfl rfl hl.1 rfl (lv_room (le4_cat hle)) hd hspace) hS (fun _ _ h => h) (fun _ h => h) (fun x u t H1 locs1 ht hvm hw hB hz1 hk1 hS1 => by obtain ⟨rfl, hw1, hw2⟩ := hw; exact fs_back ih hc hex2 hC hY hrest hcl hsl hE hw1 hw2 (by rw [← ht]; exact hB) hS1)
    · rcases exec_ret hc with ⟨rfl, hnone⟩ | ⟨v, rfl, hsome⟩ | ⟨v, rfl, hsome⟩
      · have hM := met_in ih hc hgm hbl hnl hwf hvs G ad l (va_Qv (fun u : Nat → Nat => AG σ ad u ∧ wfS σ2) (fun u t => HP G u σ2 M2 t.heap) (AA G)) (fun s t _ ad2 q1 q2 q3 q4 => ⟨⟨ad2, rfl, ⟨q1, q2⟩, q3⟩, q4⟩)
        exact va_callv (va_runSN (host := "AntTrails") (As := vs.map (amap ad)) (rest := rest.map (amap ad)) (nL := mL m) ⟨hx, hb, hml, hown, hts⟩ hM ⟨va_cnB (R := R) (s := s) (args := args) (own := mO m) (host := "AntTrails") (index := idx) (y := mY a) (bytes := mB a) (maxL := mL a) (ret := mR a) (rm := rmM a (sN σ2 - sN σ) (sS σ2 - sS σ)) (mc := sN σ2 - sN σ) (ms := sS σ2 - sS σ) (vs.map (amap ad)).length hts (gi_wsM hgm.1) rfl rfl rfl (hKU.2.2.1 _ _ _ _ hlk) (hts _ (lwG_of hgm.2.1 rfl)) ⟨hgm.2.2.1.1, hgm.2.2.1.2, hnp2⟩ hroom, hts _ (lwG_of hi1 rfl), trivial⟩ ⟨PB.blind, fun U hUH hW => ⟨rfl, hU U hUH hW⟩⟩ rfl rfl hl.1 rfl (lv_room (le4_cat hle)) hd hspace) hS (fun _ _ h => h) (fun _ h => h) (fun u t H1 locs1 ht hvm hw hB hz1 hk1 hS1 => fs_back ih hc hex2 hC hY hrest hcl hsl hE hw.1 hw.2 (by rw [← ht]; exact hB) hS1)
      · have hM := met_in ih hc hgm hbl hnl hwf hvs G ad l (va_Qi (fun (x : Int32) (u : Nat → Nat) => x = v ∧ AG σ ad u ∧ wfS σ2) (fun u t => HP G u σ2 M2 t.heap) (AA G)) (fun s t _ ad2 q1 q2 q3 q4 => ⟨⟨v, ad2, rfl, ⟨rfl, q1, q2⟩, q3⟩, q4⟩)
        exact va_calli (va_runSN (host := "AntTrails") (As := vs.map (amap ad)) (rest := rest.map (amap ad)) (nL := mL m) ⟨hx, hb, hml, hown, hts⟩ hM ⟨va_cnB (R := R) (s := s) (args := args) (own := mO m) (host := "AntTrails") (index := idx) (y := mY a) (bytes := mB a) (maxL := mL a) (ret := mR a) (rm := rmM a (sN σ2 - sN σ) (sS σ2 - sS σ)) (mc := sN σ2 - sN σ) (ms := sS σ2 - sS σ) (vs.map (amap ad)).length hts (gi_wsM hgm.1) rfl rfl rfl (hKU.2.2.1 _ _ _ _ hlk) (hts _ (lwG_of hgm.2.1 rfl)) ⟨hgm.2.2.1.1, hgm.2.2.1.2, hnp2⟩ hroom, hts _ (lwG_of hi1 rfl), trivial⟩ ⟨PB.blind, fun U hUH hW => ⟨rfl, hU U hUH hW⟩⟩ rfl rfl hl.1 rfl (lv_room (le4_cat hle)) hd hspace) hS (fun _ _ h => h) (fun _ h => h) (fun x u t H1 locs1 ht hvm hw hB hz1 hk1 hS1 => by obtain ⟨rfl, hw1, hw2⟩ := hw; exact fs_back ih hc hex2 hC hY hrest hcl hsl hE hw1 hw2 (by rw [← ht]; exact hB) hS1)
      · have hM := met_in ih hc hgm hbl hnl hwf hvs G ad l (va_Ql (fun (x : Int64) (u : Nat → Nat) => x = v ∧ AG σ ad u ∧ wfS σ2) (fun u t => HP G u σ2 M2 t.heap) (AA G)) (fun s t _ ad2 q1 q2 q3 q4 => ⟨⟨v, ad2, rfl, ⟨rfl, q1, q2⟩, q3⟩, q4⟩)
        exact va_calll (va_runSN (host := "AntTrails") (As := vs.map (amap ad)) (rest := rest.map (amap ad)) (nL := mL m) ⟨hx, hb, hml, hown, hts⟩ hM ⟨va_cnB (R := R) (s := s) (args := args) (own := mO m) (host := "AntTrails") (index := idx) (y := mY a) (bytes := mB a) (maxL := mL a) (ret := mR a) (rm := rmM a (sN σ2 - sN σ) (sS σ2 - sS σ)) (mc := sN σ2 - sN σ) (ms := sS σ2 - sS σ) (vs.map (amap ad)).length hts (gi_wsM hgm.1) rfl rfl rfl (hKU.2.2.1 _ _ _ _ hlk) (hts _ (lwG_of hgm.2.1 rfl)) ⟨hgm.2.2.1.1, hgm.2.2.1.2, hnp2⟩ hroom, hts _ (lwG_of hi1 rfl), trivial⟩ ⟨PB.blind, fun U hUH hW => ⟨rfl, hU U hUH hW⟩⟩ rfl rfl hl.1 rfl (lv_room (le4_cat hle)) hd hspace) hS (fun _ _ h => h) (fun _ h => h) (fun x u t H1 locs1 ht hvm hw hB hz1 hk1 hS1 => by obtain ⟨rfl, hw1, hw2⟩ := hw; exact fs_back ih hc hex2 hC hY hrest hcl hsl hE hw1 hw2 (by rw [← ht]; exact hB) hS1)
  · rw [if_neg hd0] at hg2
    simp only [Bool.and_eq_true, decide_eq_true_eq] at hg2
    obtain ⟨hrk, ha9, hd3⟩ := hg2
    rw [if_neg (by omega)] at hs
    have nx : ∀ (pc1 : Nat) (st1 : List Value), exec f m pc1 ls st1 σ M = some (r, σ1, M1) → okS σ st1 → W p l e R s mid args below meth c H locs cells slots Q (F0 mid pc1 lsr (st1.map (amap ad))) := fun pc1 st1 h1 h2 => ih m pc1 ls st1 σ M r σ1 M1 h1 G p l e R s mid args below meth c Q hC ad H locs cells slots lsr ⟨⟨hP, hD⟩, hZ, hS, hwf, h2, hol, hl, hlen⟩ hcl hsl hE
    rcases (show d = 1 ∨ d = 2 by omega) with rfl | rfl
    · simp only [LkP] at hk
      subst ha9
      simp only [spec] at hs
      rw [if_neg (by decide), if_pos (by decide)] at hs
      obtain ⟨y, r1, e1, hs1⟩ := pI_some hs
      obtain ⟨x, r2, e2, hs2⟩ := pI_some hs1
      subst e2
      subst e1
      obtain ⟨hle, hs3⟩ := gd_some hs2
      obtain rfl := go_inl hs3
      have hsum := le4_cat (ad := ad) hle
      have hgr := exec_grow (show exec f m (pc + 3) ls (.int (if x < y then y else x) :: r2) σ M = some (r, σ1, M1) from hex)
      exact va_mmax hx hb (hml.trans hl.1.symm) hown (hts _ (lwG_of hk rfl)) (hts _ (lwG_of wk_ms rfl)) (hts _ (lwG_of wk_mi rfl)) (hts _ (lwG_of wk_mc rfl)) (by omega) (by omega) (by omega) (by omega) hd (nx _ _ hex (okS_c okV_i (okS_t (okS_t hos))))
    · simp only [LkP] at hk
      subst ha9
      simp only [spec] at hs
      rw [if_neg (by decide), if_neg (by decide), if_pos (by decide)] at hs
      obtain ⟨y, r1, e1, hs1⟩ := pI_some hs
      obtain ⟨x, r2, e2, hs2⟩ := pI_some hs1
      subst e2
      subst e1
      obtain ⟨hle, hs3⟩ := gd_some hs2
      obtain rfl := go_inl hs3
      have hsum := le4_cat (ad := ad) hle
      have hgr := exec_grow (show exec f m (pc + 3) ls (.int (if y < x then y else x) :: r2) σ M = some (r, σ1, M1) from hex)
      exact va_mmin hx hb (hml.trans hl.1.symm) hown (hts _ (lwG_of hk rfl)) (hts _ (lwG_of wk_ns rfl)) (hts _ (lwG_of wk_mi rfl)) (hts _ (lwG_of wk_nc rfl)) (by omega) (by omega) (by omega) (by omega) hd (nx _ _ hex (okS_c okV_i (okS_t (okS_t hos))))
set_option maxHeartbeats 4000000 in
theorem fs_invokespecial {f : Nat} (ih : FS f) (idx : Nat) : FSat f (.invokespecial idx) := by
  intro m pc npc a b d w cv sw ls st σ M r σ1 M1 he hex G p l e R s mid args below meth c Q hC ad H locs cells slots lsr hY hcl hsl hE
  obtain ⟨hx, hb, hml, hown, hts, hKU, hini, hfr, hlo, hz⟩ := id hC
  obtain ⟨⟨hP, hD⟩, hZ, hS, hwf, hos, hol, hl, hlen⟩ := id hY
  have hg := fe_good he
  have hk := fe_link he
  have hd := dec_of_good hg
  rw [exec, he] at hex
  dsimp only at hex
  simp only [good, Bool.and_eq_true, decide_eq_true_eq] at hg
  cases hs : stA (.invokespecial idx) npc a b d cv sw ls st σ M with
  | none => rw [hs] at hex; cases hex
  | some res =>
  rw [hs] at hex
  obtain ⟨-, rfl, hg2⟩ := hg
  rw [Nat.add_sub_cancel_left] at hd
  simp only [stA] at hs
  by_cases hd0 : d = 0
  · subst hd0
    rw [if_pos rfl] at hg2
    simp only [Bool.and_eq_true, decide_eq_true_eq] at hg2
    obtain ⟨hrk, ha9⟩ := hg2
    subst ha9
    rw [if_neg (by decide)] at hs
    simp only [LkP] at hk
    simp only [spec] at hs
    rw [if_pos (by decide)] at hs
    obtain ⟨x, r1, e1, hs1⟩ := pR_some hs
    subst e1
    obtain ⟨hle, hs2⟩ := gd_some hs1
    obtain rfl := go_inl hs2
    have hsum := le4_cat (ad := ad) hle
    refine W.objInit hx hb hown (hts _ (lwG_of hk rfl)) (hts _ (lwG_of wk_oi rfl)) (hts _ (lwG_of wk_oc rfl)) rfl (hl.1.trans hml.symm) rfl hd (by omega) (by show 2 * 0 + _ + 12 ≤ _; omega) ?_
    exact ih m (pc + 3) ls r1 σ M r σ1 M1 hex G p l e R s mid args below meth c Q hC ad H locs cells slots lsr ⟨⟨hP, hD⟩, hZ, hS, hwf, okS_t hos, hol, hl, hlen⟩ hcl hsl hE
  · rw [if_neg hd0] at hg2
    simp only [Bool.and_eq_true, decide_eq_true_eq] at hg2
    obtain ⟨⟨⟨ha9, hd10, hd8⟩, hrank⟩, hab0⟩ := hg2
    rw [if_pos ha9] at hs
    have hk : (mY a).cls = cN (d - 10) ∧ LM m idx a ∧ GM a ∧ IM a cv := by
      simp only [LkP] at hk
      exact hk
    have hgm := hk.2.2.1
    have hab : nOf cv + b = mL a := by
      unfold argN at hab0
      split at hab0
      · exact (of_decide_eq_true hab0).2
      · cases hab0
  
    obtain ⟨vs, rest, hp, hle, hnl, rfl, hrc⟩ := doCall_some hs
    obtain ⟨hst, hn⟩ := st_call (ad := ad) hp
    have hrest : okS σ rest := fun v hv => hos v (by rw [hst]; exact List.mem_append_right _ hv)
    have hvs : okS σ vs := fun v hv => hos v (by rw [hst]; exact List.mem_append_left _ (List.mem_reverse.mpr hv))
    have hex2 : (match exec f a 0 (iniL vs b) [] σ M with
      | none => none
      | some (r, σ1, M1) => exec f m (pc + 3) ls (pushR r rest) σ1 M1) = some (r, σ1, M1) := hex
    cases hc : exec f a 0 (iniL vs b) [] σ M with
    | none => rw [hc] at hex2; cases hex2
    | some res2 =>
    obtain ⟨r2, σ2, M2⟩ := res2
    rw [hc] at hex2
    have hg1 := exec_grow hc
    have hg2 := exec_grow hex2
    have hroom : (rmM a (sN σ2 - sN σ) (sS σ2 - sS σ)).frames + 1 ≤ R.frames ∧ 8 + (mL a + 11) + (rmM a (sN σ2 - sN σ) (sS σ2 - sS σ)).locals ≤ R.locals := by
      have hml17 := hgm.2.2.2.2.1
      refine ⟨?_, ?_⟩
      · show mK a + 1 ≤ R.frames
        omega
      · show 8 + (mL a + 11) + 36 * mK a ≤ R.locals
        omega
    have hspace : cells + (sN σ2 - sN σ) ≤ R.cells ∧ slots + (sS σ2 - sS σ) ≤ R.slots := ⟨by omega, by omega⟩
    have hU : ∀ U : State, U.heap = H → s.WarmedH U.vm → PB G ad σ M U := fun U hUH hW => ⟨by rw [hUH]; exact ⟨hP, hD⟩, hKU.warm hW, (ZU.moved hW.alike (ZU.kept hZ hS.2.1)) |> fun q => by rw [hUH]; exact q, by rw [hUH]; exact Nat.le_trans hz hS.1⟩
  
    obtain ⟨hcls, hlk, hgm2, hi1, hinit2, hret, hnp⟩ := hk
    obtain ⟨o, tl, rfl, hto⟩ := hrc (by omega)
    have hbl : (Value.ref o :: tl).length + b = mL a := by rw [hn]; exact hab
    have hnp2 : nP a = some (tl.map (amap ad)).length := by
      have h1 : nP a = some (nOf cv - 1) := hnp
      rw [← hn] at h1
      rw [List.length_map]
      exact h1
    have hstk : st.map (amap ad) = (tl.map (amap ad)).reverse ++ .ref (ad o) :: rest.map (amap ad) := by rw [hst]; simp [amap]
    rw [hstk]
    obtain rfl : r2 = none := by
      rcases exec_ret hc with ⟨q, -⟩ | ⟨v, -, q⟩ | ⟨v, -, q⟩
      · exact q
      · exact absurd hret q
      · exact absurd hret q
    have hM := met_in ih hc hgm hbl hnl hwf hvs G ad l (va_Qv (fun u : Nat → Nat => AG σ ad u ∧ wfS σ2) (fun u t => HP G u σ2 M2 t.heap) (AA G)) (fun s t _ ad2 q1 q2 q3 q4 => ⟨⟨ad2, rfl, ⟨q1, q2⟩, q3⟩, q4⟩)
    have hwsn : wsM a = Cond.code (mY a) (mB a) (mL a) none :: lwG := by unfold wsM; rw [hret]
    rcases hlk with hlk | hlk
    · exact va_callv (va_runI (b := ad o) (As := tl.map (amap ad)) (rest := rest.map (amap ad)) (nL := mL m) ⟨hx, hb, hml, hown, hts⟩ hM (cwI (R := R) (s := s) (args := args) (own := mO m) (index := idx) (y := mY a) (bytes := mB a) (maxL := mL a) (ws := wsM a) (ws' := lwG) (rm := rmM a (sN σ2 - sN σ) (sS σ2 - sS σ)) (mc := sN σ2 - sN σ) (ms := sS σ2 - sS σ) (tl.map (amap ad)).length hts (gi_wsM hgm.1) hwsn rfl rfl (hts _ (lwG_of hgm.2.1 rfl)) (hts _ (lwG_of hlk rfl)) (hts _ (lwG_of hi1 rfl)) hinit2 ⟨hgm.2.2.1.1, hgm.2.2.1.2, hnp2⟩ hroom) ⟨PB.blind, fun U hUH hW => ⟨rfl, hU U hUH hW⟩⟩ rfl rfl hl.1 rfl (lv_room (le4_cat hle)) hd hspace) hS (fun _ _ h => h) (fun _ h => h) (fun u t H1 locs1 ht hvm hw hB hz1 hk1 hS1 => fs_back ih hc hex2 hC hY hrest hcl hsl hE hw.1 hw.2 (by rw [← ht]; exact hB) hS1)
    · exact va_callv (va_runIN (host := "AntTrails") (b := ad o) (As := tl.map (amap ad)) (rest := rest.map (amap ad)) (nL := mL m) ⟨hx, hb, hml, hown, hts⟩ hM ⟨va_cnB (R := R) (s := s) (args := args) (own := mO m) (host := "AntTrails") (index := idx) (y := mY a) (bytes := mB a) (maxL := mL a) (ret := none) (ws := wsM a) (ws' := lwG) (rm := rmM a (sN σ2 - sN σ) (sS σ2 - sS σ)) (mc := sN σ2 - sN σ) (ms := sS σ2 - sS σ) (tl.map (amap ad)).length hts (gi_wsM hgm.1) hwsn rfl rfl (hKU.2.2.1 _ _ _ _ hlk) (hts _ (lwG_of hgm.2.1 rfl)) ⟨hgm.2.2.1.1, hgm.2.2.1.2, hnp2⟩ hroom, hinit2, hts _ (lwG_of hi1 rfl)⟩ ⟨PB.blind, fun U hUH hW => ⟨rfl, hU U hUH hW⟩⟩ rfl rfl hl.1 rfl (lv_room (le4_cat hle)) hd hspace) hS (fun _ _ h => h) (fun _ h => h) (fun u t H1 locs1 ht hvm hw hB hz1 hk1 hS1 => fs_back ih hc hex2 hC hY hrest hcl hsl hE hw.1 hw.2 (by rw [← ht]; exact hB) hS1)
set_option maxHeartbeats 4000000 in
theorem fs_ireturn {f : Nat} (ih : FS f) : FSat f (.ireturn) := by
  intro m pc npc a b d w cv sw ls st σ M r σ1 M1 he hex G p l e R s mid args below meth c Q hC ad H locs cells slots lsr hY hcl hsl hE
  obtain ⟨hx, hb, hml, hown, hts, hKU, hini, hfr, hlo, hz⟩ := id hC
  obtain ⟨⟨hP, hD⟩, hZ, hS, hwf, hos, hol, hl, hlen⟩ := id hY
  have hg := fe_good he
  have hk := fe_link he
  have hd := dec_of_good hg
  rw [exec, he] at hex
  dsimp only at hex
  simp only [good, Bool.and_eq_true, decide_eq_true_eq] at hg
  cases hs : stA (.ireturn) npc a b d cv sw ls st σ M with
  | none => rw [hs] at hex; cases hex
  | some res =>
  rw [hs] at hex
  obtain ⟨-, rfl, hcv⟩ := hg
  rw [Nat.add_sub_cancel_left] at hd
  rcases stA_ret (show stA .ireturn (pc + 1) a b d cv sw ls st σ M = some (.inr (.inr (st.head?))) from by
    rw [hs]
    simp only [stA] at hs
    split at hs
    · obtain ⟨h1, h2⟩ := gd_some hs
      cases h2
      rfl
    · cases hs) with ⟨-, x, rfl, -, hok⟩ | ⟨q, -⟩ | ⟨q, -⟩
  · simp only [stA] at hs
    obtain ⟨h1, h2⟩ := gd_some hs
    cases h2
    cases hex
    have hcl2 : cells ≤ R.cells := by omega
    have hsl2 : slots ≤ R.slots := by omega
    exact W.widen hcl2 hsl2 (hE pc (pc + 1) a b d w .ireturn cv sw lsr H locs ad he (Or.inl ⟨x, rfl, rfl, hok⟩) ⟨hP, hD⟩ AG.rf hS hwf)
  · cases q
  · cases q
set_option maxHeartbeats 4000000 in
theorem fs_return {f : Nat} (ih : FS f) : FSat f (.return_) := by
  intro m pc npc a b d w cv sw ls st σ M r σ1 M1 he hex G p l e R s mid args below meth c Q hC ad H locs cells slots lsr hY hcl hsl hE
  obtain ⟨hx, hb, hml, hown, hts, hKU, hini, hfr, hlo, hz⟩ := id hC
  obtain ⟨⟨hP, hD⟩, hZ, hS, hwf, hos, hol, hl, hlen⟩ := id hY
  have hg := fe_good he
  have hk := fe_link he
  have hd := dec_of_good hg
  rw [exec, he] at hex
  dsimp only at hex
  simp only [good, Bool.and_eq_true, decide_eq_true_eq] at hg
  cases hs : stA (.return_) npc a b d cv sw ls st σ M with
  | none => rw [hs] at hex; cases hex
  | some res =>
  rw [hs] at hex
  obtain ⟨-, rfl, hcv⟩ := hg
  rw [Nat.add_sub_cancel_left] at hd
  simp only [stA] at hs
  split at hs
  · cases hs
    cases hex
    have hcl2 : cells ≤ R.cells := by omega
    have hsl2 : slots ≤ R.slots := by omega
    exact W.widen hcl2 hsl2 (hE pc (pc + 1) a b d w .return_ cv sw lsr H locs ad he (Or.inr (Or.inl ⟨rfl, rfl⟩)) ⟨hP, hD⟩ AG.rf hS hwf)
  · cases hs
set_option maxHeartbeats 4000000 in
theorem fs_lreturn {f : Nat} (ih : FS f) : FSat f (.lreturn) := by
  intro m pc npc a b d w cv sw ls st σ M r σ1 M1 he hex G p l e R s mid args below meth c Q hC ad H locs cells slots lsr hY hcl hsl hE
  obtain ⟨hx, hb, hml, hown, hts, hKU, hini, hfr, hlo, hz⟩ := id hC
  obtain ⟨⟨hP, hD⟩, hZ, hS, hwf, hos, hol, hl, hlen⟩ := id hY
  have hg := fe_good he
  have hk := fe_link he
  have hd := dec_of_good hg
  rw [exec, he] at hex
  dsimp only at hex
  simp only [good, Bool.and_eq_true, decide_eq_true_eq] at hg
  cases hs : stA (.lreturn) npc a b d cv sw ls st σ M with
  | none => rw [hs] at hex; cases hex
  | some res =>
  rw [hs] at hex
  obtain ⟨-, rfl, hcv⟩ := hg
  rw [Nat.add_sub_cancel_left] at hd
  simp only [stA] at hs
  split at hs
  · cases hs
    cases hex
    have hcl2 : cells ≤ R.cells := by omega
    have hsl2 : slots ≤ R.slots := by omega
    exact W.widen hcl2 hsl2 (hE pc (pc + 1) a b d w .lreturn cv sw lsr H locs ad he (Or.inr (Or.inr ⟨_, rfl, rfl⟩)) ⟨hP, hD⟩ AG.rf hS hwf)
  · cases hs
theorem fs_all : ∀ f, FS f
  | 0 => fun m pc ls st σ M r σ1 M1 h => by simp [exec] at h
  | f + 1 => by
    have ih := fs_all f
    intro m pc ls st σ M r σ1 M1 hex
    cases he : fe (mC m) pc with
    | none => rw [exec, he] at hex; cases hex
    | some x =>
    obtain ⟨ins, npc, a, b, d, w, cv, sw⟩ := x
    have hg := fe_good he
    have key : FSat f ins := by
      cases hh : hard ins with
      | false => exact fs_easy ih ins hh
      | true =>
        cases ins with
        | getfield k => exact fs_getfield ih k
        | putfield k => exact fs_putfield ih k
        | getstatic k => exact fs_getstatic ih k
        | arraylength => exact fs_arraylength ih
        | iaload => exact fs_iaload ih
        | caload => exact fs_caload ih
        | aaload => exact fs_aaload ih
        | iastore => exact fs_iastore ih
        | castore => exact fs_castore ih
        | aastore => exact fs_aastore ih
        | new k => exact fs_new ih k
        | newarray t =>
          simp only [good, Bool.and_eq_true, decide_eq_true_eq] at hg
          rcases hg.2.2 with rfl | rfl
          · exact fs_newI ih
          · exact fs_newC ih
        | anewarray k => exact fs_anewarray ih k
        | invokevirtual k => exact fs_invokevirtual ih k
        | invokestatic k => exact fs_invokestatic ih k
        | invokespecial k => exact fs_invokespecial ih k
        | ireturn => exact fs_ireturn ih
        | return_ => exact fs_return ih
        | lreturn => exact fs_lreturn ih
        | _ => exact Bool.noConfusion (show false = true from hh)
    exact key m pc npc a b d w cv sw ls st σ M r σ1 M1 he hex
