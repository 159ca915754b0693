/-- what stays the same while a frame of method number m runs -/
def CF (G : PG) (p : Program) (R : Room) (s : State) (mid : MethodId) (args : Array Value) (meth : Method) (c : Code) (m : Nat) : Prop :=
  p.tables.exec = Jvm.exec ∧ c.code = mB m ∧ c.maxLocals = mL m ∧ s.vm.findClass (mO m) = some mid.cls ∧ (∀ w ∈ lwG, w.before args s = true) ∧ KU G s ∧ ((mY m).name = "<init>" → meth.name = "<init>") ∧ mK m ≤ R.frames ∧ 36 * mK m ≤ R.locals ∧ G.2.2.2.2 ≤ s.heap.size
/-- what holds at a point of a frame -/
def DY (G : PG) (s : State) (m : Nat) (ad : Nat → Nat) (ls : Lcl) (st : List Value) (σ : Sg) (M : Mem) (H : Heap) (locs : List Jvm.Loc) (lsr : Array Slot) : Prop :=
  HP G ad σ M H ∧ ZU G ad σ M s s.heap ∧ va_S (AA G) s.heap H locs ∧ wfS σ ∧ okS σ st ∧ okL σ ls ∧ lv_has lsr (mL m) (asc ad ls) ∧ ls.length = mL m
def RT (ins : Instr) (r : Option Value) (cv : Value) : Prop := (∃ v, r = some (.int v) ∧ ins = .ireturn ∧ okR cv v = true) ∨ (r = none ∧ ins = .return_) ∨ (∃ v, r = some (.long v) ∧ ins = .lreturn)
def FS (f : Nat) : Prop := ∀ (m pc : Nat) (ls : Lcl) (st : List Value) (σ : Sg) (M : Mem) (r : Option Value) (σ1 : Sg) (M1 : Mem), exec f m pc ls st σ M = some (r, σ1, M1) →
  ∀ (G : PG) (p : Program) (l : Launch) (e : Env) (R : Room) (s : State) (mid : MethodId) (args : Array Value) (below : List Frame) (meth : Method) (c : Code) (Q : State → Prop), CF G p R s mid args meth c m →
  ∀ (ad : Nat → Nat) (H : Heap) (locs : List Jvm.Loc) (cells slots : Nat) (lsr : Array Slot), DY G s m ad ls st σ M H locs lsr → cells + sN σ1 ≤ R.cells + sN σ → slots + sS σ1 ≤ R.slots + sS σ →
  (∀ (pc2 npc a b d w : Nat) (ins : Instr) (cv : Value) (sw : List (Int32 × Nat)) (lsr2 : Array Slot) (H2 : Heap) (locs2 : List Jvm.Loc) (ad2 : Nat → Nat), fe (mC m) pc2 = some (ins, npc, a, b, d, w, cv, sw) → RT ins r cv → HP G ad2 σ1 M1 H2 → AG σ ad ad2 → va_S (AA G) s.heap H2 locs2 → wfS σ1 → W p l e R s mid args below meth c H2 locs2 R.cells R.slots Q (F0 mid pc2 lsr2 r.toList)) →
  W p l e R s mid args below meth c H locs cells slots Q (F0 mid pc lsr (st.map (amap ad)))
def Gr (σ : Sg) (x : Option Rs) : Prop := ∀ (pc1 : Nat) (ls1 : Lcl) (st1 : List Value) (σ1 : Sg) (M1 : Mem), x = some (.inl (pc1, ls1, st1, σ1, M1)) → sN σ ≤ sN σ1 ∧ sS σ ≤ sS σ1
theorem gr_go {pc : Nat} {ls : Lcl} {st : List Value} {σ σ2 : Sg} {M : Mem} (h : sN σ ≤ sN σ2 ∧ sS σ ≤ sS σ2) : Gr σ (go pc ls st σ2 M) := fun _ _ _ _ _ e => by
  simp only [go, Option.some.injEq, Sum.inl.injEq, Prod.mk.injEq] at e
  obtain ⟨-, -, -, rfl, -⟩ := e
  exact h
theorem gr_n {σ : Sg} : Gr σ none := fun _ _ _ _ _ e => by cases e
theorem gr_r {σ : Sg} {x : (Nat × Lcl × List Value) ⊕ Option Value} : Gr σ (some (.inr x)) := fun _ _ _ _ _ e => by cases e
theorem gr_pI {σ : Sg} {st : List Value} {K : Int32 → List Value → Option Rs} (h : ∀ y r, Gr σ (K y r)) : Gr σ (pI st K) := by
  unfold pI; split
  · exact h _ _
  · exact gr_n
theorem gr_pR {σ : Sg} {st : List Value} {K : Nat → List Value → Option Rs} (h : ∀ y r, Gr σ (K y r)) : Gr σ (pR st K) := by
  unfold pR; split
  · exact h _ _
  · exact gr_n
theorem gr_pG {σ : Sg} {st : List Value} {K : Int64 → List Value → Option Rs} (h : ∀ y r, Gr σ (K y r)) : Gr σ (pG st K) := by
  unfold pG; split
  · exact h _ _
  · exact gr_n
theorem gr_pF {σ : Sg} {st : List Value} {K : UInt32 → List Value → Option Rs} (h : ∀ y r, Gr σ (K y r)) : Gr σ (pF st K) := by
  unfold pF; split
  · exact h _ _
  · exact gr_n
theorem gr_pV {σ : Sg} {st : List Value} {K : Value → List Value → Option Rs} (h : ∀ y r, Gr σ (K y r)) : Gr σ (pV st K) := by
  unfold pV; split
  · exact h _ _
  · exact h _ _
  · exact h _ _
  · exact h _ _
  · exact gr_n
theorem gr_ldI {σ : Sg} {v : Option Value} {K : Int32 → Option Rs} (h : ∀ y, Gr σ (K y)) : Gr σ (ldI v K) := by
  unfold ldI; split
  · exact h _
  · exact gr_n
theorem gr_ldG {σ : Sg} {v : Option Value} {K : Int64 → Option Rs} (h : ∀ y, Gr σ (K y)) : Gr σ (ldG v K) := by
  unfold ldG; split
  · exact h _
  · exact gr_n
theorem gr_ldF {σ : Sg} {v : Option Value} {K : UInt32 → Option Rs} (h : ∀ y, Gr σ (K y)) : Gr σ (ldF v K) := by
  unfold ldF; split
  · exact h _
  · exact gr_n
theorem gr_ldA {σ : Sg} {v : Option Value} {K : Value → Option Rs} (h : ∀ y, Gr σ (K y)) : Gr σ (ldA v K) := by
  unfold ldA; split
  · exact h _
  · exact h _
  · exact gr_n
theorem gr_gd {σ : Sg} {c : Prop} [Decidable c] {K : Option Rs} (h : Gr σ K) : Gr σ (gd c K) := by
  unfold gd; split
  · exact h
  · exact gr_n
theorem gr_ixI {σ : Sg} {i : Int32} {n : Nat} {K : Nat → Option Rs} (h : ∀ k, Gr σ (K k)) : Gr σ (ixI i n K) := by
  unfold ixI; split
  · exact gr_n
  · exact h _
theorem gr_st1 {σ : Sg} {ls : Lcl} {k : Nat} {v : Value} {K : Lcl → Option Rs} (h : ∀ l, Gr σ (K l)) : Gr σ (st1 ls k v K) := gr_gd (h _)
theorem gr_st2 {σ : Sg} {ls : Lcl} {k : Nat} {v : Value} {K : Lcl → Option Rs} (h : ∀ l, Gr σ (K l)) : Gr σ (st2 ls k v K) := gr_gd (h _)
theorem gr_call {σ σ2 : Sg} {a b d : Nat} {r : Option (List Value × List Value)} : Gr σ (doCall σ2 a b d r) := by
  unfold doCall
  split
  · split
    · split
      · exact gr_r
      · split
        · split
          · exact gr_r
          · exact gr_n
        · exact gr_n
    · exact gr_n
  · exact gr_n
theorem gr_rf {σ : Sg} : sN σ ≤ sN σ ∧ sS σ ≤ sS σ := ⟨Nat.le_refl _, Nat.le_refl _⟩
theorem gr_sR {σ : Sg} {o : Nat} {f : Nat → Option Nat} : sN σ ≤ sN (setR σ o f) ∧ sS σ ≤ sS (setR σ o f) := ⟨Nat.le_refl _, Nat.le_refl _⟩
theorem gr_al {σ : Sg} {t l k : Nat} : sN σ ≤ sN (alloc σ t l k) ∧ sS σ ≤ sS (alloc σ t l k) := ⟨Nat.le_add_right _ _, Nat.le_add_right _ _⟩
theorem gr_putF {cv : Value} {k : Nat} {st : List Value} {npc : Nat} {ls : Lcl} {tag : Nat} {σ : Sg} {M : Mem} : Gr σ (putF cv k st npc ls tag σ M) := by
  unfold putF; split
  · exact gr_pR fun _ _ => gr_pR fun _ _ => gr_gd (gr_go gr_sR)
  · exact gr_pI fun _ _ => gr_pR fun _ _ => gr_gd (gr_go gr_rf)
theorem gr_spec {a npc : Nat} {st : List Value} {ls : Lcl} {σ : Sg} {M : Mem} : Gr σ (spec a npc ls st σ M) := by
  unfold spec
  split
  · exact gr_pR fun _ _ => gr_gd (gr_go gr_rf)
  · split
    · exact gr_pI fun _ _ => gr_pI fun _ _ => gr_gd (gr_go gr_rf)
    · split
      · exact gr_pI fun _ _ => gr_pI fun _ _ => gr_gd (gr_go gr_rf)
      · exact gr_pF fun _ _ => gr_gd (gr_go gr_rf)
theorem gr_stA {ins : Instr} {npc a b d : Nat} {cv : Value} {sw : List (Int32 × Nat)} {ls : Lcl} {st : List Value} {σ : Sg} {M : Mem} : Gr σ (stA ins npc a b d cv sw ls st σ M) := by
  cases ins
  all_goals simp only [stA]
  all_goals first
    | exact gr_go gr_rf
    | exact gr_n
    | exact gr_call
    | exact gr_putF
    | (refine gr_ldI fun _ => ?_; first | exact gr_go gr_rf | exact gr_st1 fun _ => gr_go gr_rf)
    | exact gr_ldA fun _ => gr_go gr_rf
    | exact gr_ldG fun _ => gr_go gr_rf
    | exact gr_ldF fun _ => gr_go gr_rf
    | (refine gr_pI fun _ _ => ?_; first | exact gr_go gr_rf | exact gr_st1 fun _ => gr_go gr_rf | exact gr_pI fun _ _ => gr_go gr_rf | exact gr_pI fun _ _ => gr_gd (gr_go gr_rf) | exact gr_pR fun _ _ => gr_gd (gr_ixI fun _ => gr_go gr_rf) | exact gr_pI fun _ _ => gr_pR fun _ _ => gr_gd (gr_ixI fun _ => gr_go gr_rf) | exact gr_gd (gr_ixI fun _ => gr_go gr_al))
    | (refine gr_pR fun _ _ => ?_; first | exact gr_go gr_rf | exact gr_st1 fun _ => gr_go gr_rf | exact gr_gd (gr_go gr_rf) | exact gr_pI fun _ _ => gr_pR fun _ _ => gr_gd (gr_ixI fun _ => gr_go gr_sR))
    | (refine gr_pF fun _ _ => ?_; first | exact gr_go gr_rf | exact gr_st1 fun _ => gr_go gr_rf | exact gr_pF fun _ _ => gr_go gr_rf | exact gr_pF fun _ _ => gr_gd (gr_go gr_rf))
    | (refine gr_pG fun _ _ => ?_; first | exact gr_go gr_rf | exact gr_st2 fun _ => gr_go gr_rf | exact gr_pG fun _ _ => gr_go gr_rf | exact gr_pG fun _ _ => gr_gd (gr_go gr_rf))
    | (refine gr_pV fun _ _ => ?_; first | exact gr_go gr_rf | exact gr_pV fun _ _ => gr_go gr_rf)
    | exact gr_gd (gr_go gr_al)
    | (split
       · exact gr_call
       · exact gr_spec)
    | (split
       · exact gr_gd gr_r
       · exact gr_n)
    | (split
       · exact gr_r
       · exact gr_n)
theorem stA_mono {ins : Instr} {npc a b d : Nat} {cv : Value} {sw : List (Int32 × Nat)} {ls : Lcl} {st : List Value} {σ : Sg} {M : Mem} {pc1 : Nat} {ls1 : Lcl} {st1 : List Value} {σ1 : Sg} {M1 : Mem} (h : stA ins npc a b d cv sw ls st σ M = some (.inl (pc1, ls1, st1, σ1, M1))) : sN σ ≤ sN σ1 ∧ sS σ ≤ sS σ1 := by
  exact gr_stA _ _ _ _ _ h
theorem exec_grow : ∀ {f m pc : Nat} {ls : Lcl} {st : List Value} {σ : Sg} {M : Mem} {r : Option Value} {σ1 : Sg} {M1 : Mem}, exec f m pc ls st σ M = some (r, σ1, M1) → sN σ ≤ sN σ1 ∧ sS σ ≤ sS σ1
  | 0, _, _, _, _, _, _, _, _, _, h => by simp [exec] at h
  | f + 1, m, pc, ls, st, σ, M, r, σ1, M1, h => by
    rw [exec] at h
    split at h
    · cases h
    · split at h
      · cases h
      · rename_i hs
        have a1 := stA_mono hs
        have a2 := exec_grow h
        omega
      · split at h
        · cases h
        · rename_i hc
          have a1 := exec_grow hc
          have a2 := exec_grow h
          omega
      · cases h
        exact ⟨Nat.le_refl _, Nat.le_refl _⟩
theorem dec_of_good {m pc npc a b d w : Nat} {ins : Instr} {cv : Value} {sw : List (Int32 × Nat)} (h : good m (pc, ins, npc, a, b, d, w, cv, sw) = true) : decode (mB m) pc = .ok (ins, npc - pc) := by
  unfold good at h
  rw [Bool.and_eq_true] at h
  exact of_decide_eq_true h.1
theorem swT_ls {x : Int32} {pc : Nat} {df : Int} {a : Nat} (ha : (pc : Int) + df = (a : Int)) : ∀ {ps : List (Int × Int)} {sw : List (Int32 × Nat)}, lswOk pc ps sw = true → (pc : Int) + Op.lookupswitch.offset ps df x.toInt = (swT sw a x : Int)
  | [], [], _ => by simpa [Op.lookupswitch.offset, swT] using ha
  | [], _ :: _, h => by simp [lswOk] at h
  | _ :: _, [], h => by simp [lswOk] at h
  | p :: ps, q :: sw, h => by
    simp only [lswOk, Bool.and_eq_true, decide_eq_true_eq] at h
    obtain ⟨⟨h1, h2⟩, h3⟩ := h
    have ih := swT_ls (x := x) ha h3
    obtain ⟨p1, p2⟩ := p
    obtain ⟨q1, q2⟩ := q
    simp only at h1 h2
    by_cases hx : x = q1
    · subst hx
      rw [show swT ((x, q2) :: sw) a x = q2 by simp [swT], h2]
      simp [Op.lookupswitch.offset, h1]
    · rw [lv_osw hx h1, ih, show swT ((q1, q2) :: sw) a x = swT sw a x by simp [swT, hx]]
theorem swT_ts {x : Int32} {d : Nat} : ∀ {sw : List (Int32 × Nat)} {lo : Int}, (∀ i, i < sw.length → (sw[i]?).map (fun q => q.1.toInt) = some (lo + i)) →
    ((x.toInt < lo ∨ lo + sw.length - 1 < x.toInt) → swT sw d x = d) ∧ (¬ x.toInt < lo → ¬ lo + sw.length - 1 < x.toInt → (sw[(x.toInt - lo).toNat]?).map (fun q => q.2) = some (swT sw d x))
  | [], lo, _ => ⟨fun _ => rfl, fun h1 h2 => by simp at h2; omega⟩
  | (v, t) :: sw, lo, h => by
    have hv : v.toInt = lo := by have := h 0 (by simp); simpa using this
    have ih := swT_ts (x := x) (d := d) (sw := sw) (lo := lo + 1) (fun i hi => by
      have h2 := h (i + 1) (by simp; omega)
      simp only [List.getElem?_cons_succ] at h2
      rw [h2]
      congr 1
      push_cast
      omega)
    have hlen : ((v, t) :: sw).length = sw.length + 1 := rfl
    by_cases hx : x = v
    · subst hx
      rw [hlen]
      refine ⟨fun q => by push_cast at q; omega, fun _ _ => ?_⟩
      rw [show (x.toInt - lo).toNat = 0 by omega]
      simp [swT]
    · have hne : x.toInt ≠ lo := fun q => hx (Int32.toInt_inj.mp (q.trans hv.symm))
      rw [hlen, show swT ((v, t) :: sw) d x = swT sw d x by simp [swT, hx]]
      refine ⟨fun q => ih.1 (by push_cast at q; omega), fun h1 h2 => ?_⟩
      have h3 := ih.2 (by omega) (by push_cast at h2; omega)
      rw [show (x.toInt - lo).toNat = (x.toInt - (lo + 1)).toNat + 1 by omega, List.getElem?_cons_succ]
      exact h3
theorem getF_map {ad : Nat → Nat} {R : Option Nat} {x : Int32} {cv : Value} : amap ad (getF cv R x) = fldV ad R x cv := by
  cases cv <;> first | rfl | (cases R <;> rfl)
theorem rf_map {ad : Nat → Nat} {R : Option Nat} : amap ad (va_rf R) = va_rf (R.map ad) := by cases R <;> rfl
theorem ent_obj {G : PG} {ad : Nat → Nat} {σ : Sg} {M : Mem} {i t : Nat} (h : sT σ i = t) (ht : 10 ≤ t) : ent G ad σ M i = .inr (t - 10, (List.range (cF (t - 10))).map (fun k => fldV ad (sR σ i k) (M i k) (tcv (cY (t - 10) k)))) := by
  subst h
  unfold ent
  rw [if_neg (by omega), if_neg (by omega), if_neg (by omega)]
theorem ent_0 {G : PG} {ad : Nat → Nat} {σ : Sg} {M : Mem} {i : Nat} (h : sT σ i = 0) : ent G ad σ M i = .inl (G.2.1, sL σ i, .inl (M i)) := by unfold ent; rw [if_pos h]
theorem ent_1 {G : PG} {ad : Nat → Nat} {σ : Sg} {M : Mem} {i : Nat} (h : sT σ i = 1) : ent G ad σ M i = .inl (G.2.2.1, sL σ i, .inl (M i)) := by unfold ent; rw [if_neg (by omega), if_pos h]
theorem ent_2 {G : PG} {ad : Nat → Nat} {σ : Sg} {M : Mem} {i : Nat} (h : sT σ i = 2) : ent G ad σ M i = .inl (G.2.2.2.1, sL σ i, .inr (.inr (.inr (.inr (fun j => (sR σ i j).map ad))))) := by unfold ent; rw [if_neg (by omega), if_neg (by omega), if_pos h]
/-- a cell's picture depends on its own rows alone -/
theorem ent_same {G : PG} {ad ad2 : Nat → Nat} {σ σ2 : Sg} {M M2 : Mem} {i : Nat} (hT : sT σ2 i = sT σ i) (hL : sL σ2 i = sL σ i) (hM : M2 i = M i) (hR : ∀ k, (sR σ2 i k).map ad2 = (sR σ i k).map ad) : ent G ad2 σ2 M2 i = ent G ad σ M i := by
  have hf : ∀ k cv, fldV ad2 (sR σ2 i k) (M2 i k) cv = fldV ad (sR σ i k) (M i k) cv := fun k cv => by
    cases cv <;> simp [fldV, hR, hM]
  unfold ent
  rw [hT, hL, hM]
  simp only [hR, ← hM, hf]
theorem upM_s {α : Type} {M : Nat → α} {o : Nat} {f : α} : upM M o f o = f := if_pos rfl
theorem upM_n {α : Type} {M : Nat → α} {o b : Nat} {f : α} (h : b ≠ o) : upM M o f b = M b := if_neg h
theorem okA_obj {σ : Sg} {j : Nat} (h : okA σ j) (ht : sT σ j ≠ 9) : j < sN σ := h.elim id fun q => absurd q ht
theorem br_eq_t {x y : Int32} {t e : Nat} (h : x = y) : br32 .eq x y t e = t := if_pos h
theorem br_eq_f {x y : Int32} {t e : Nat} (h : ¬ x = y) : br32 .eq x y t e = e := if_neg h
theorem br_ne_t {x y : Int32} {t e : Nat} (h : ¬ x = y) : br32 .ne x y t e = t := if_neg h
theorem br_ne_f {x y : Int32} {t e : Nat} (h : x = y) : br32 .ne x y t e = e := if_pos h
theorem br_lt_t {x y : Int32} {t e : Nat} (h : x < y) : br32 .lt x y t e = t := if_pos h
theorem br_lt_f {x y : Int32} {t e : Nat} (h : ¬ x < y) : br32 .lt x y t e = e := if_neg h
theorem br_ge_t {x y : Int32} {t e : Nat} (h : y ≤ x) : br32 .ge x y t e = t := if_neg (Int32.not_lt.mpr h)
theorem br_ge_f {x y : Int32} {t e : Nat} (h : ¬ y ≤ x) : br32 .ge x y t e = e := if_pos (Int32.not_le.mp h)
theorem br_gt_t {x y : Int32} {t e : Nat} (h : y < x) : br32 .gt x y t e = t := if_pos h
theorem br_gt_f {x y : Int32} {t e : Nat} (h : ¬ y < x) : br32 .gt x y t e = e := if_neg h
theorem br_le_t {x y : Int32} {t e : Nat} (h : x ≤ y) : br32 .le x y t e = t := if_neg (Int32.not_lt.mpr h)
theorem br_le_f {x y : Int32} {t e : Nat} (h : ¬ x ≤ y) : br32 .le x y t e = e := if_pos (Int32.not_le.mp h)
theorem go_inl {pc : Nat} {ls : Lcl} {st : List Value} {σ : Sg} {M : Mem} {x : Rs} (h : go pc ls st σ M = some x) : x = .inl (pc, ls, st, σ, M) := (Option.some.inj h).symm
/-- the rows that leave the heap as it is; the others are told apart -/
def hard (ins : Instr) : Bool := match ins with
  | .getfield _ => true
  | .putfield _ => true
  | .getstatic _ => true
  | .arraylength => true
  | .iaload => true
  | .caload => true
  | .aaload => true
  | .iastore => true
  | .castore => true
  | .aastore => true
  | .new _ => true
  | .newarray _ => true
  | .anewarray _ => true
  | .invokevirtual _ => true
  | .invokestatic _ => true
  | .invokespecial _ => true
  | .ireturn => true
  | .lreturn => true
  | .return_ => true
  | _ => false
def FSat (f : Nat) (ins : Instr) : Prop := ∀ (m pc npc a b d w : Nat) (cv : Value) (sw : List (Int32 × Nat)) (ls : Lcl) (st : List Value) (σ : Sg) (M : Mem) (r : Option Value) (σ1 : Sg) (M1 : Mem), fe (mC m) pc = some (ins, npc, a, b, d, w, cv, sw) → exec (f + 1) m pc ls st σ M = some (r, σ1, M1) →
  ∀ (G : PG) (p : Program) (l : Launch) (e : Env) (R : Room) (s : State) (mid : MethodId) (args : Array Value) (below : List Frame) (meth : Method) (c : Code) (Q : State → Prop), CF G p R s mid args meth c m →
  ∀ (ad : Nat → Nat) (H : Heap) (locs : List Jvm.Loc) (cells slots : Nat) (lsr : Array Slot), DY G s m ad ls st σ M H locs lsr → cells + sN σ1 ≤ R.cells + sN σ → slots + sS σ1 ≤ R.slots + sS σ →
  (∀ (pc2 npc a b d w : Nat) (ins : Instr) (cv : Value) (sw : List (Int32 × Nat)) (lsr2 : Array Slot) (H2 : Heap) (locs2 : List Jvm.Loc) (ad2 : Nat → Nat), fe (mC m) pc2 = some (ins, npc, a, b, d, w, cv, sw) → RT ins r cv → HP G ad2 σ1 M1 H2 → AG σ ad ad2 → va_S (AA G) s.heap H2 locs2 → wfS σ1 → W p l e R s mid args below meth c H2 locs2 R.cells R.slots Q (F0 mid pc2 lsr2 r.toList)) →
  W p l e R s mid args below meth c H locs cells slots Q (F0 mid pc lsr (st.map (amap ad)))
set_option maxHeartbeats 4000000 in
theorem fs_easy {f : Nat} (ih : FS f) (ins : Instr) (hh : hard ins = false) : FSat f ins := by
  intro m pc npc a b d w cv sw ls st σ M r σ1 M1 he hex G p l e R s mid args below meth c Q hC ad H locs cells slots lsr hY hcl hsl hE
  obtain ⟨hx, hb, hml, hown, hts, hKU, hini, hfr, hlo, hz⟩ := id hC
  obtain ⟨⟨hP, hD⟩, hZ, hS, hwf, hos, hol, hl, hlen⟩ := id hY
  have hg := fe_good he
  have hk := fe_link he
  have hd := dec_of_good hg
  have nl : ∀ (pc1 : Nat) (ls1 : Lcl) (st1 : List Value) (lsr1 : Array Slot), exec f m pc1 ls1 st1 σ M = some (r, σ1, M1) → okS σ st1 → okL σ ls1 → lv_has lsr1 (mL m) (asc ad ls1) → ls1.length = mL m → W p l e R s mid args below meth c H locs cells slots Q (F0 mid pc1 lsr1 (st1.map (amap ad))) := fun pc1 ls1 st1 lsr1 h1 h2 h3 h4 h5 => ih m pc1 ls1 st1 σ M r σ1 M1 h1 G p l e R s mid args below meth c Q hC ad H locs cells slots lsr1 ⟨⟨hP, hD⟩, hZ, hS, hwf, h2, h3, h4, h5⟩ hcl hsl hE
  have nx : ∀ (pc1 : Nat) (st1 : List Value), exec f m pc1 ls st1 σ M = some (r, σ1, M1) → okS σ st1 → W p l e R s mid args below meth c H locs cells slots Q (F0 mid pc1 lsr (st1.map (amap ad))) := fun pc1 st1 h1 h2 => nl pc1 ls st1 lsr h1 h2 hol hl hlen
  rw [exec, he] at hex
  dsimp only at hex
  cases hs : stA ins npc a b d cv sw ls st σ M with
  | none => rw [hs] at hex; cases hex
  | some res =>
  rw [hs] at hex
  cases ins with
  | iconst n =>
    simp only [good, Bool.and_eq_true, decide_eq_true_eq] at hg
    obtain ⟨-, rfl, rfl⟩ := hg
    rw [Nat.add_sub_cancel_left] at hd
    obtain rfl := go_inl hs
    exact lv_iconst hx hb hd rfl (nx _ _ hex (okS_c okV_i hos))
  | bipush n =>
    simp only [good, Bool.and_eq_true, decide_eq_true_eq] at hg
    obtain ⟨-, rfl, rfl⟩ := hg
    rw [Nat.add_sub_cancel_left] at hd
    obtain rfl := go_inl hs
    exact lv_bipush hx hb hd rfl (nx _ _ hex (okS_c okV_i hos))
  | sipush n =>
    simp only [good, Bool.and_eq_true, decide_eq_true_eq] at hg
    obtain ⟨-, rfl, rfl⟩ := hg
    rw [Nat.add_sub_cancel_left] at hd
    obtain rfl := go_inl hs
    exact lv_sipush hx hb hd rfl (nx _ _ hex (okS_c okV_i hos))
  | ldc n =>
    simp only [good, Bool.and_eq_true, decide_eq_true_eq] at hg
    obtain ⟨-, rfl⟩ := hg
    rw [Nat.add_sub_cancel_left] at hd
    obtain rfl := go_inl hs
    simp only [LkP] at hk
    split at hk
    · exact lv_ldc hx hb hown (hts _ (lwG_of hk rfl)) hd (nx _ _ hex (okS_c okV_i hos))
    · exact lv_ldcf hx hb hown (hts _ (lwG_of hk rfl)) hd (nx _ _ hex (okS_c okV_f hos))
    · exact hk.elim
  | ldc2_w n =>
    simp only [good, Bool.and_eq_true, decide_eq_true_eq] at hg
    obtain ⟨-, rfl⟩ := hg
    rw [Nat.add_sub_cancel_left] at hd
    obtain rfl := go_inl hs
    simp only [LkP] at hk
    split at hk
    · exact lv_ldc2 hx hb hown (hts _ (lwG_of hk rfl)) hd (nx _ _ hex (okS_c okV_l hos))
    · exact hk.elim
  | fconst n =>
    simp only [good, Bool.and_eq_true, decide_eq_true_eq] at hg
    obtain ⟨-, rfl, rfl⟩ := hg
    rw [Nat.add_sub_cancel_left] at hd
    obtain rfl := go_inl hs
    have hex : exec f m (pc + 1) ls (.float (if n = 0 then FP.fconst0 else if n = 1 then FP.fconst1 else FP.fconst2) :: st) σ M = some (r, σ1, M1) := hex
    by_cases h0 : n = 0
    · subst h0
      rw [if_pos rfl] at hex
      exact lv_fconst0 hx hb hd (nx _ _ hex (okS_c okV_f hos))
    · rw [if_neg h0] at hex
      by_cases h1 : n = 1
      · subst h1
        rw [if_pos rfl] at hex
        exact lv_fconst1 hx hb hd (nx _ _ hex (okS_c okV_f hos))
      · rw [if_neg h1] at hex
        have h2 : n = 2 := by omega
        subst h2
        exact lv_fconst2 hx hb hd (nx _ _ hex (okS_c okV_f hos))
  | iload k =>
    simp only [good, Bool.and_eq_true, decide_eq_true_eq] at hg
    obtain ⟨-, rfl⟩ := hg
    rw [Nat.add_sub_cancel_left] at hd
    obtain ⟨x, hv, hs⟩ := ldI_some hs
    obtain rfl := go_inl hs
    exact lv_iload hx hb hd (lv_rd hl hv) (nx _ _ hex (okS_c okV_i hos))
  | iload_n k =>
    simp only [good, Bool.and_eq_true, decide_eq_true_eq] at hg
    obtain ⟨-, rfl⟩ := hg
    rw [Nat.add_sub_cancel_left] at hd
    obtain ⟨x, hv, hs⟩ := ldI_some hs
    obtain rfl := go_inl hs
    exact lv_iload_n hx hb hd rfl (lv_rd hl hv) (nx _ _ hex (okS_c okV_i hos))
  | lload k =>
    simp only [good, Bool.and_eq_true, decide_eq_true_eq] at hg
    obtain ⟨-, rfl⟩ := hg
    rw [Nat.add_sub_cancel_left] at hd
    obtain ⟨x, hv, hs⟩ := ldG_some hs
    obtain rfl := go_inl hs
    exact lv_lload hx hb hd (lv_rd hl hv) (nx _ _ hex (okS_c okV_l hos))
  | lstore k =>
    simp only [good, Bool.and_eq_true, decide_eq_true_eq] at hg
    obtain ⟨-, rfl⟩ := hg
    rw [Nat.add_sub_cancel_left] at hd
    obtain ⟨x, r1, rfl, hs⟩ := pG_some hs
    obtain ⟨⟨h1, h2⟩, hs⟩ := gd_some hs
    obtain rfl := go_inl hs
    refine lv_lstore hx hb hd hl (by omega) rfl (fun ls2 hl2 => nl _ _ _ ls2 hex (okS_t hos) (okL_set (okL_set hol (fun _ h => by cases h)) (fun _ h => by cases h; exact okV_l)) (lv_st2 (x := .long x) h2 hl2) (by rw [lset_len, lset_len]; exact hlen))
  | ladd =>
    simp only [good, Bool.and_eq_true, decide_eq_true_eq] at hg
    obtain ⟨-, rfl⟩ := hg
    rw [Nat.add_sub_cancel_left] at hd
    obtain ⟨y, r1, rfl, hs⟩ := pG_some hs
    obtain ⟨x, r2, rfl, hs⟩ := pG_some hs
    obtain rfl := go_inl hs
    exact lv_ladd hx hb hd (nx _ _ hex (okS_c okV_l (okS_t (okS_t hos))))
  | lcmp =>
    simp only [good, Bool.and_eq_true, decide_eq_true_eq] at hg
    obtain ⟨-, rfl⟩ := hg
    rw [Nat.add_sub_cancel_left] at hd
    obtain ⟨y, r1, rfl, hs⟩ := pG_some hs
    obtain ⟨x, r2, rfl, hs⟩ := pG_some hs
    obtain rfl := go_inl hs
    exact W.lcmp hx hb hd (nx _ _ hex (okS_c okV_i (okS_t (okS_t hos))))
  | lload_n k =>
    simp only [good, Bool.and_eq_true, decide_eq_true_eq] at hg
    obtain ⟨-, rfl⟩ := hg
    rw [Nat.add_sub_cancel_left] at hd
    obtain ⟨x, hv, hs⟩ := ldG_some hs
    obtain rfl := go_inl hs
    exact lv_lload_n hx hb hd rfl (lv_rd hl hv) (nx _ _ hex (okS_c okV_l hos))
  | fload_n k =>
    simp only [good, Bool.and_eq_true, decide_eq_true_eq] at hg
    obtain ⟨-, rfl⟩ := hg
    rw [Nat.add_sub_cancel_left] at hd
    obtain ⟨x, hv, hs⟩ := ldF_some hs
    obtain rfl := go_inl hs
    exact lv_fload_n hx hb hd rfl (lv_rd hl hv) (nx _ _ hex (okS_c okV_f hos))
  | aload_n k =>
    simp only [good, Bool.and_eq_true, decide_eq_true_eq] at hg
    obtain ⟨-, rfl⟩ := hg
    rw [Nat.add_sub_cancel_left] at hd
    simp only [stA] at hs
    rcases ldA_some hs with ⟨x, hv, hs⟩ | ⟨hv, hs⟩
    · obtain rfl := go_inl hs
      exact lv_aload_n hx hb hd rfl (lv_rd hl hv) (nx _ _ hex (okS_c (hol _ _ hv) hos))
    · obtain rfl := go_inl hs
      exact lv_aload_nN hx hb hd rfl (lv_rd hl hv) (nx _ _ hex (okS_c okV_n hos))
  | istore k =>
    simp only [good, Bool.and_eq_true, decide_eq_true_eq] at hg
    obtain ⟨-, rfl⟩ := hg
    rw [Nat.add_sub_cancel_left] at hd
    obtain ⟨x, r1, rfl, hs⟩ := pI_some hs
    obtain ⟨⟨h1, h2⟩, hs⟩ := gd_some hs
    obtain rfl := go_inl hs
    refine lv_istore hx hb hd  hl (by omega) rfl (fun ls2 hl2 => nl _ _ _ ls2 hex (okS_t hos) (okL_set hol (fun _ h => by cases h; exact okV_i)) (lv_st1 (x := .int x) h2 hl2) (by rw [lset_len]; exact hlen))
  | istore_n k =>
    simp only [good, Bool.and_eq_true, decide_eq_true_eq] at hg
    obtain ⟨-, rfl⟩ := hg
    rw [Nat.add_sub_cancel_left] at hd
    obtain ⟨x, r1, rfl, hs⟩ := pI_some hs
    obtain ⟨⟨h1, h2⟩, hs⟩ := gd_some hs
    obtain rfl := go_inl hs
    refine lv_istore_n hx hb hd rfl hl (by omega) rfl (fun ls2 hl2 => nl _ _ _ ls2 hex (okS_t hos) (okL_set hol (fun _ h => by cases h; exact okV_i)) (lv_st1 (x := .int x) h2 hl2) (by rw [lset_len]; exact hlen))
  | astore_n k =>
    simp only [good, Bool.and_eq_true, decide_eq_true_eq] at hg
    obtain ⟨-, rfl⟩ := hg
    rw [Nat.add_sub_cancel_left] at hd
    obtain ⟨x, r1, rfl, hs⟩ := pR_some hs
    obtain ⟨⟨h1, h2⟩, hs⟩ := gd_some hs
    obtain rfl := go_inl hs
    refine lv_astore_n hx hb hd rfl hl (by omega) rfl (fun ls2 hl2 => nl _ _ _ ls2 hex (okS_t hos) (okL_set hol (fun _ h => by cases h; exact (okS_h hos))) (lv_st1 (x := .ref x) h2 hl2) (by rw [lset_len]; exact hlen))
  | fstore_n k =>
    simp only [good, Bool.and_eq_true, decide_eq_true_eq] at hg
    obtain ⟨-, rfl⟩ := hg
    rw [Nat.add_sub_cancel_left] at hd
    obtain ⟨x, r1, rfl, hs⟩ := pF_some hs
    obtain ⟨⟨h1, h2⟩, hs⟩ := gd_some hs
    obtain rfl := go_inl hs
    refine lv_fstore_n hx hb hd rfl hl (by omega) rfl (fun ls2 hl2 => nl _ _ _ ls2 hex (okS_t hos) (okL_set hol (fun _ h => by cases h; exact okV_f)) (lv_st1 (x := .float x) h2 hl2) (by rw [lset_len]; exact hlen))
  | lstore_n k =>
    simp only [good, Bool.and_eq_true, decide_eq_true_eq] at hg
    obtain ⟨-, rfl⟩ := hg
    rw [Nat.add_sub_cancel_left] at hd
    obtain ⟨x, r1, rfl, hs⟩ := pG_some hs
    obtain ⟨⟨h1, h2⟩, hs⟩ := gd_some hs
    obtain rfl := go_inl hs
    refine lv_lstore_n hx hb hd rfl hl (by omega) rfl (fun ls2 hl2 => nl _ _ _ ls2 hex (okS_t hos) (okL_set (okL_set hol (fun _ h => by cases h)) (fun _ h => by cases h; exact okV_l)) (lv_st2 (x := .long x) h2 hl2) (by rw [lset_len, lset_len]; exact hlen))
  | iinc k n =>
    simp only [good, Bool.and_eq_true, decide_eq_true_eq] at hg
    obtain ⟨-, rfl⟩ := hg
    rw [Nat.add_sub_cancel_left] at hd
    obtain ⟨x, hv, hs⟩ := ldI_some hs
    obtain ⟨⟨h1, h2⟩, hs⟩ := gd_some hs
    obtain rfl := go_inl hs
    obtain ⟨j, hj⟩ := List.getElem?_of_mem (mem_asc.mpr ⟨.int x, hv, rfl⟩ : ((k, amap ad (.int x)) : Nat × Value) ∈ asc ad ls)
    exact lv_iinc hx hb hd hl hj rfl (by omega) rfl (fun ls2 hl2 => nl _ _ _ ls2 hex hos (okL_set hol (fun _ h => by cases h; exact okV_i)) (lv_st1 (x := .int (x + Int32.ofInt n)) h2 hl2) (by rw [lset_len]; exact hlen))
  | iadd =>
    simp only [good, Bool.and_eq_true, decide_eq_true_eq] at hg
    obtain ⟨-, rfl⟩ := hg
    rw [Nat.add_sub_cancel_left] at hd
    obtain ⟨y, r1, rfl, hs⟩ := pI_some hs
    obtain ⟨x, r2, rfl, hs⟩ := pI_some hs
    obtain rfl := go_inl hs
    exact lv_iadd hx hb hd (nx _ _ hex (okS_c okV_i (okS_t (okS_t hos))))
  | isub =>
    simp only [good, Bool.and_eq_true, decide_eq_true_eq] at hg
    obtain ⟨-, rfl⟩ := hg
    rw [Nat.add_sub_cancel_left] at hd
    obtain ⟨y, r1, rfl, hs⟩ := pI_some hs
    obtain ⟨x, r2, rfl, hs⟩ := pI_some hs
    obtain rfl := go_inl hs
    exact lv_isub hx hb hd (nx _ _ hex (okS_c okV_i (okS_t (okS_t hos))))
  | imul =>
    simp only [good, Bool.and_eq_true, decide_eq_true_eq] at hg
    obtain ⟨-, rfl⟩ := hg
    rw [Nat.add_sub_cancel_left] at hd
    obtain ⟨y, r1, rfl, hs⟩ := pI_some hs
    obtain ⟨x, r2, rfl, hs⟩ := pI_some hs
    obtain rfl := go_inl hs
    exact lv_imul hx hb hd (nx _ _ hex (okS_c okV_i (okS_t (okS_t hos))))
  | iand =>
    simp only [good, Bool.and_eq_true, decide_eq_true_eq] at hg
    obtain ⟨-, rfl⟩ := hg
    rw [Nat.add_sub_cancel_left] at hd
    obtain ⟨y, r1, rfl, hs⟩ := pI_some hs
    obtain ⟨x, r2, rfl, hs⟩ := pI_some hs
    obtain rfl := go_inl hs
    exact lv_iand hx hb hd (nx _ _ hex (okS_c okV_i (okS_t (okS_t hos))))
  | ior =>
    simp only [good, Bool.and_eq_true, decide_eq_true_eq] at hg
    obtain ⟨-, rfl⟩ := hg
    rw [Nat.add_sub_cancel_left] at hd
    obtain ⟨y, r1, rfl, hs⟩ := pI_some hs
    obtain ⟨x, r2, rfl, hs⟩ := pI_some hs
    obtain rfl := go_inl hs
    exact lv_ior hx hb hd (nx _ _ hex (okS_c okV_i (okS_t (okS_t hos))))
  | ishl =>
    simp only [good, Bool.and_eq_true, decide_eq_true_eq] at hg
    obtain ⟨-, rfl⟩ := hg
    rw [Nat.add_sub_cancel_left] at hd
    obtain ⟨y, r1, rfl, hs⟩ := pI_some hs
    obtain ⟨x, r2, rfl, hs⟩ := pI_some hs
    obtain rfl := go_inl hs
    exact lv_ishl hx hb hd (nx _ _ hex (okS_c okV_i (okS_t (okS_t hos))))
  | ishr =>
    simp only [good, Bool.and_eq_true, decide_eq_true_eq] at hg
    obtain ⟨-, rfl⟩ := hg
    rw [Nat.add_sub_cancel_left] at hd
    obtain ⟨y, r1, rfl, hs⟩ := pI_some hs
    obtain ⟨x, r2, rfl, hs⟩ := pI_some hs
    obtain rfl := go_inl hs
    exact lv_ishr hx hb hd (nx _ _ hex (okS_c okV_i (okS_t (okS_t hos))))
  | idiv =>
    simp only [good, Bool.and_eq_true, decide_eq_true_eq] at hg
    obtain ⟨-, rfl⟩ := hg
    rw [Nat.add_sub_cancel_left] at hd
    obtain ⟨y, r1, rfl, hs⟩ := pI_some hs
    obtain ⟨x, r2, rfl, hs⟩ := pI_some hs
    obtain ⟨h1, hs⟩ := gd_some hs
    obtain rfl := go_inl hs
    exact lv_idiv hx hb hd h1 (nx _ _ hex (okS_c okV_i (okS_t (okS_t hos))))
  | irem =>
    simp only [good, Bool.and_eq_true, decide_eq_true_eq] at hg
    obtain ⟨-, rfl⟩ := hg
    rw [Nat.add_sub_cancel_left] at hd
    obtain ⟨y, r1, rfl, hs⟩ := pI_some hs
    obtain ⟨x, r2, rfl, hs⟩ := pI_some hs
    obtain ⟨h1, hs⟩ := gd_some hs
    obtain rfl := go_inl hs
    exact lv_irem hx hb hd h1 (nx _ _ hex (okS_c okV_i (okS_t (okS_t hos))))
  | lmul =>
    simp only [good, Bool.and_eq_true, decide_eq_true_eq] at hg
    obtain ⟨-, rfl⟩ := hg
    rw [Nat.add_sub_cancel_left] at hd
    obtain ⟨y, r1, rfl, hs⟩ := pG_some hs
    obtain ⟨x, r2, rfl, hs⟩ := pG_some hs
    obtain rfl := go_inl hs
    exact lv_lmul hx hb hd (nx _ _ hex (okS_c okV_l (okS_t (okS_t hos))))
  | lrem =>
    simp only [good, Bool.and_eq_true, decide_eq_true_eq] at hg
    obtain ⟨-, rfl⟩ := hg
    rw [Nat.add_sub_cancel_left] at hd
    obtain ⟨y, r1, rfl, hs⟩ := pG_some hs
    obtain ⟨x, r2, rfl, hs⟩ := pG_some hs
    obtain ⟨h1, hs⟩ := gd_some hs
    obtain rfl := go_inl hs
    exact lv_lrem hx hb hd h1 (nx _ _ hex (okS_c okV_l (okS_t (okS_t hos))))
  | i2l =>
    simp only [good, Bool.and_eq_true, decide_eq_true_eq] at hg
    obtain ⟨-, rfl⟩ := hg
    rw [Nat.add_sub_cancel_left] at hd
    obtain ⟨y, r1, rfl, hs⟩ := pI_some hs
    obtain rfl := go_inl hs
    exact lv_i2l hx hb hd rfl (nx _ _ hex (okS_c okV_l (okS_t hos)))
  | l2i =>
    simp only [good, Bool.and_eq_true, decide_eq_true_eq] at hg
    obtain ⟨-, rfl⟩ := hg
    rw [Nat.add_sub_cancel_left] at hd
    obtain ⟨y, r1, rfl, hs⟩ := pG_some hs
    obtain rfl := go_inl hs
    exact lv_l2i hx hb hd rfl (nx _ _ hex (okS_c okV_i (okS_t hos)))
  | i2c =>
    simp only [good, Bool.and_eq_true, decide_eq_true_eq] at hg
    obtain ⟨-, rfl⟩ := hg
    rw [Nat.add_sub_cancel_left] at hd
    obtain ⟨y, r1, rfl, hs⟩ := pI_some hs
    obtain rfl := go_inl hs
    exact lv_i2c hx hb hd rfl (nx _ _ hex (okS_c okV_i (okS_t hos)))
  | i2f =>
    simp only [good, Bool.and_eq_true, decide_eq_true_eq] at hg
    obtain ⟨-, rfl⟩ := hg
    rw [Nat.add_sub_cancel_left] at hd
    obtain ⟨y, r1, rfl, hs⟩ := pI_some hs
    obtain rfl := go_inl hs
    exact lv_i2f hx hb hd (nx _ _ hex (okS_c okV_f (okS_t hos)))
  | f2i =>
    simp only [good, Bool.and_eq_true, decide_eq_true_eq] at hg
    obtain ⟨-, rfl⟩ := hg
    rw [Nat.add_sub_cancel_left] at hd
    obtain ⟨y, r1, rfl, hs⟩ := pF_some hs
    obtain rfl := go_inl hs
    exact lv_f2i hx hb hd (nx _ _ hex (okS_c okV_i (okS_t hos)))
  | fmul =>
    simp only [good, Bool.and_eq_true, decide_eq_true_eq] at hg
    obtain ⟨-, rfl⟩ := hg
    rw [Nat.add_sub_cancel_left] at hd
    obtain ⟨y, r1, rfl, hs⟩ := pF_some hs
    obtain ⟨x, r2, rfl, hs⟩ := pF_some hs
    obtain ⟨h1, hs⟩ := gd_some hs
    obtain rfl := go_inl hs
    exact lv_fmul hx hb hd (by simpa [nn32, vf_n32] using h1) (nx _ _ hex (okS_c okV_f (okS_t (okS_t hos))))
  | fdiv =>
    simp only [good, Bool.and_eq_true, decide_eq_true_eq] at hg
    obtain ⟨-, rfl⟩ := hg
    rw [Nat.add_sub_cancel_left] at hd
    obtain ⟨y, r1, rfl, hs⟩ := pF_some hs
    obtain ⟨x, r2, rfl, hs⟩ := pF_some hs
    obtain ⟨h1, hs⟩ := gd_some hs
    obtain rfl := go_inl hs
    exact lv_fdiv hx hb hd (by simpa [nn32, vf_n32] using h1) (nx _ _ hex (okS_c okV_f (okS_t (okS_t hos))))
  | fsub =>
    simp only [good, Bool.and_eq_true, decide_eq_true_eq] at hg
    obtain ⟨-, rfl⟩ := hg
    rw [Nat.add_sub_cancel_left] at hd
    obtain ⟨y, r1, rfl, hs⟩ := pF_some hs
    obtain ⟨x, r2, rfl, hs⟩ := pF_some hs
    obtain ⟨h1, hs⟩ := gd_some hs
    obtain rfl := go_inl hs
    exact lv_fsub hx hb hd (by simpa [nn32, vf_n32] using h1) (nx _ _ hex (okS_c okV_f (okS_t (okS_t hos))))
  | fcmp op =>
    simp only [good, Bool.and_eq_true, decide_eq_true_eq] at hg
    obtain ⟨-, rfl⟩ := hg
    rw [Nat.add_sub_cancel_left] at hd
    obtain ⟨y, r1, rfl, hs⟩ := pF_some hs
    obtain ⟨x, r2, rfl, hs⟩ := pF_some hs
    obtain rfl := go_inl hs
    exact lv_fcmp hx hb hd (nx _ _ hex (okS_c okV_i (okS_t (okS_t hos))))
  | dup =>
    simp only [good, Bool.and_eq_true, decide_eq_true_eq] at hg
    obtain ⟨-, rfl⟩ := hg
    rw [Nat.add_sub_cancel_left] at hd
    simp only [stA] at hs
    obtain ⟨v, r1, rfl, hc, hs⟩ := pV_some hs
    obtain rfl := go_inl hs
    exact lv_dup hx hb hd (cat_amap.trans hc) (nx _ _ hex (okS_c (okS_h hos) hos))
  | dup2 =>
    simp only [good, Bool.and_eq_true, decide_eq_true_eq] at hg
    obtain ⟨-, rfl⟩ := hg
    rw [Nat.add_sub_cancel_left] at hd
    simp only [stA] at hs
    obtain ⟨v, r1, rfl, hc, hs⟩ := pV_some hs
    obtain ⟨u, r2, rfl, hc2, hs⟩ := pV_some hs
    obtain rfl := go_inl hs
    exact lv_dup2_11 hx hb hd (cat_amap.trans hc) (cat_amap.trans hc2) (nx _ _ hex (okS_c (okS_h hos) (okS_c (okS_h (okS_t hos)) hos)))
  | pop =>
    simp only [good, Bool.and_eq_true, decide_eq_true_eq] at hg
    obtain ⟨-, rfl⟩ := hg
    rw [Nat.add_sub_cancel_left] at hd
    simp only [stA] at hs
    obtain ⟨v, r1, rfl, hc, hs⟩ := pV_some hs
    obtain rfl := go_inl hs
    exact lv_pop hx hb hd (cat_amap.trans hc) (nx _ _ hex (okS_t hos))
  | goto o =>
    simp only [good, Bool.and_eq_true, decide_eq_true_eq] at hg
    obtain ⟨-, rfl, ho⟩ := hg
    rw [Nat.add_sub_cancel_left] at hd
    obtain rfl := go_inl hs
    exact lv_goto hx hb hd (of_decide_eq_true ho) (nx _ _ hex hos)
  | if_icmp cc o =>
    simp only [good, Bool.and_eq_true, decide_eq_true_eq] at hg
    obtain ⟨-, rfl, ho⟩ := hg
    rw [Nat.add_sub_cancel_left] at hd
    obtain ⟨y, r1, rfl, hs⟩ := pI_some hs
    obtain ⟨x, r2, rfl, hs⟩ := pI_some hs
    obtain rfl := go_inl hs
    have ho := of_decide_eq_true ho
    have hex : exec f m (br32 cc x y a (pc + 3)) ls r2 σ M = some (r, σ1, M1) := hex
    have hos2 : okS σ r2 := okS_t (okS_t hos)
    cases cc with
    | eq => exact lv_icmp_eq hx hb hd ho (fun hc => nx _ _ (by rw [br_eq_t hc] at hex; exact hex) hos2) (fun hc => nx _ _ (by rw [br_eq_f hc] at hex; exact hex) hos2)
    | ne => exact lv_icmp_ne hx hb hd ho (fun hc => nx _ _ (by rw [br_ne_t hc] at hex; exact hex) hos2) (fun hc => nx _ _ (by rw [br_ne_f hc] at hex; exact hex) hos2)
    | lt => exact lv_icmp_lt hx hb hd ho (fun hc => nx _ _ (by rw [br_lt_t hc] at hex; exact hex) hos2) (fun hc => nx _ _ (by rw [br_lt_f hc] at hex; exact hex) hos2)
    | ge => exact lv_icmp_ge hx hb hd ho (fun hc => nx _ _ (by rw [br_ge_t hc] at hex; exact hex) hos2) (fun hc => nx _ _ (by rw [br_ge_f hc] at hex; exact hex) hos2)
    | gt => exact lv_icmp_gt hx hb hd ho (fun hc => nx _ _ (by rw [br_gt_t hc] at hex; exact hex) hos2) (fun hc => nx _ _ (by rw [br_gt_f hc] at hex; exact hex) hos2)
    | le => exact lv_icmp_le hx hb hd ho (fun hc => nx _ _ (by rw [br_le_t hc] at hex; exact hex) hos2) (fun hc => nx _ _ (by rw [br_le_f hc] at hex; exact hex) hos2)
  | ifCond cc o =>
    simp only [good, Bool.and_eq_true, decide_eq_true_eq] at hg
    obtain ⟨-, rfl, ho⟩ := hg
    rw [Nat.add_sub_cancel_left] at hd
    obtain ⟨x, r1, rfl, hs⟩ := pI_some hs
    obtain rfl := go_inl hs
    have ho := of_decide_eq_true ho
    have hex : exec f m (br32 cc x 0 a (pc + 3)) ls r1 σ M = some (r, σ1, M1) := hex
    have hos2 : okS σ r1 := okS_t hos
    cases cc with
    | eq => exact lv_if_eq hx hb hd ho (fun hc => nx _ _ (by rw [br_eq_t hc] at hex; exact hex) hos2) (fun hc => nx _ _ (by rw [br_eq_f hc] at hex; exact hex) hos2)
    | ne => exact lv_if_ne hx hb hd ho (fun hc => nx _ _ (by rw [br_ne_t hc] at hex; exact hex) hos2) (fun hc => nx _ _ (by rw [br_ne_f hc] at hex; exact hex) hos2)
    | lt => exact lv_if_lt hx hb hd ho (fun hc => nx _ _ (by rw [br_lt_t hc] at hex; exact hex) hos2) (fun hc => nx _ _ (by rw [br_lt_f hc] at hex; exact hex) hos2)
    | ge => exact lv_if_ge hx hb hd ho (fun hc => nx _ _ (by rw [br_ge_t hc] at hex; exact hex) hos2) (fun hc => nx _ _ (by rw [br_ge_f hc] at hex; exact hex) hos2)
    | gt => exact lv_if_gt hx hb hd ho (fun hc => nx _ _ (by rw [br_gt_t hc] at hex; exact hex) hos2) (fun hc => nx _ _ (by rw [br_gt_f hc] at hex; exact hex) hos2)
    | le => exact lv_if_le hx hb hd ho (fun hc => nx _ _ (by rw [br_le_t hc] at hex; exact hex) hos2) (fun hc => nx _ _ (by rw [br_le_f hc] at hex; exact hex) hos2)
  | ifnull o =>
    simp only [good, Bool.and_eq_true, decide_eq_true_eq] at hg
    obtain ⟨-, rfl, ho⟩ := hg
    rw [Nat.add_sub_cancel_left] at hd
    obtain ⟨x, r1, rfl, hs⟩ := pR_some hs
    obtain rfl := go_inl hs
    exact lv_ifnull hx hb hd (nx _ _ hex (okS_t hos))
  | ifnonnull o =>
    simp only [good, Bool.and_eq_true, decide_eq_true_eq] at hg
    obtain ⟨-, rfl, ho⟩ := hg
    rw [Nat.add_sub_cancel_left] at hd
    obtain ⟨x, r1, rfl, hs⟩ := pR_some hs
    obtain rfl := go_inl hs
    exact lv_ifnonnull hx hb hd (of_decide_eq_true ho) (nx _ _ hex (okS_t hos))
  | lookupswitch df ps =>
    simp only [good, Bool.and_eq_true, decide_eq_true_eq] at hg
    obtain ⟨-, ⟨ho, hls⟩, hp⟩ := hg
    obtain ⟨x, r1, rfl, hs⟩ := pI_some hs
    obtain rfl := go_inl hs
    exact lv_lookup hx hb hd hp rfl (swT_ls (of_decide_eq_true ho) hls) (nx _ _ hex (okS_t hos))
  | tableswitch df lo hi offs =>
    simp only [good, Bool.and_eq_true, decide_eq_true_eq] at hg
    obtain ⟨-, ho, hts2⟩ := hg
    obtain ⟨x, r1, rfl, hs⟩ := pI_some hs
    obtain rfl := go_inl hs
    simp only [tswOk, Bool.and_eq_true, decide_eq_true_eq, List.all_eq_true, List.mem_range] at hts2
    obtain ⟨⟨⟨⟨h1, h2⟩, -⟩, -⟩, h5⟩ := hts2
    have hw := swT_ts (x := x) (d := a) (sw := sw) (lo := lo) (fun i hi => (h5 i (by omega)).1)
    rw [h1] at hw
    rw [← h2] at hw
    by_cases hr : x.toInt < lo ∨ hi < x.toInt
    · have e := hw.1 hr
      refine lv_tableOut hx hb hd hr (of_decide_eq_true ho) (nx a _ ?_ (okS_t hos))
      have hex : exec f m (swT sw a x) ls r1 σ M = some (r, σ1, M1) := hex
      rw [e] at hex
      exact hex
    · have n1 : ¬ x.toInt < lo := fun q => hr (Or.inl q)
      have n2 : ¬ hi < x.toInt := fun q => hr (Or.inr q)
      have e := hw.2 n1 n2
      have hlt : (x.toInt - lo).toNat < offs.size := by omega
      have e2 := (h5 _ hlt).2
      obtain ⟨q, hq, hq2⟩ := Option.map_eq_some_iff.mp e
      rw [hq, Array.getElem?_eq_getElem hlt] at e2
      simp only [Option.map_some, Option.some.injEq] at e2
      refine lv_tableIn hx hb hd n1 n2 (Array.getElem?_eq_getElem hlt) (tgt := swT sw a x) ?_ (nx _ _ hex (okS_t hos))
      rw [← e2, hq2]
  | _ => first | exact Bool.noConfusion (show true = false from hh) | (exact absurd hs (by simp [stA]))
