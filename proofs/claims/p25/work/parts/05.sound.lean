def lwG : List Cond := lw_tbl.filter goodWord
theorem lwG_of {w : Cond} (h : w ∈ lw_tbl) (hg : goodWord w = true) : w ∈ lwG := List.mem_filter.mpr ⟨h, hg⟩
theorem lwG_good : ∀ w ∈ lwG, goodWord w = true := fun _ h => (List.mem_filter.mp h).2
def wsM (j : Nat) : List Cond := Cond.code (mY j) (mB j) (mL j) (mR j) :: lwG
theorem gi_wsM {j : Nat} (h : Cond.code (mY j) (mB j) (mL j) (mR j) ∈ lw_tbl) : GoodIn lwG (wsM j) := fun w hw => by
  rcases List.mem_cons.mp hw with rfl | hw
  · exact ⟨lwG_of h rfl, good_of_word rfl⟩
  · exact ⟨hw, good_of_word (lwG_good w hw)⟩
def amap (ad : Nat → Nat) (v : Value) : Value := match v with
  | .ref j => .ref (ad j)
  | v => v
def fldV (ad : Nat → Nat) (R : Option Nat) (x : Int32) (cv : Value) : Value := match cv with
  | .null => va_rf (R.map ad)
  | _ => .int x
abbrev PG := va_G × ClassId × ClassId × ClassId × Nat
def AA (G : PG) : Nat → Prop := fun q => G.2.2.2.2 ≤ q
def tysF (G : PG) : List (ClassId × FieldType) := [(G.2.1, .int), (G.2.2.1, .char), (G.2.2.2.1, .object "AntTrails$Ground")]
def ent (G : PG) (ad : Nat → Nat) (σ : Sg) (M : Mem) (i : Nat) : va_E :=
  if sT σ i = 0 then .inl (G.2.1, sL σ i, .inl (M i)) else if sT σ i = 1 then .inl (G.2.2.1, sL σ i, .inl (M i)) else if sT σ i = 2 then .inl (G.2.2.2.1, sL σ i, .inr (.inr (.inr (.inr (fun j => (sR σ i j).map ad))))) else .inr (sT σ i - 10, (List.range (cF (sT σ i - 10))).map (fun k => fldV ad (sR σ i k) (M i k) (tcv (cY (sT σ i - 10) k))))
def cw (G : PG) (ad : Nat → Nat) (σ : Sg) (M : Mem) : va_W := (List.range (sN σ)).map fun i => (ad i, ent G ad σ M i)
theorem cw_get {G : PG} {ad : Nat → Nat} {σ : Sg} {M : Mem} {i : Nat} (h : i < sN σ) : (cw G ad σ M)[i]? = some (ad i, ent G ad σ M i) := by simp [cw, h]
theorem cw_set {G : PG} {ad : Nat → Nat} {σ σ2 : Sg} {M M2 : Mem} {a : Nat} {E : va_E} (hσ : sN σ2 = sN σ) (he : ent G ad σ2 M2 a = E) (ho : ∀ i, i ≠ a → ent G ad σ2 M2 i = ent G ad σ M i) : cw G ad σ2 M2 = (cw G ad σ M).set a (ad a, E) := by
  apply List.ext_getElem?
  intro i
  rw [List.getElem?_set]
  by_cases hi : i < sN σ
  · rw [cw_get (by omega), cw_get hi]
    by_cases ha : a = i
    · subst ha
      simp [cw, hi, he]
    · rw [if_neg ha, ho i (fun q => ha q.symm)]
  · have h1 : (cw G ad σ2 M2)[i]? = none := by simp [cw, hσ]; omega
    have h2 : (cw G ad σ M)[i]? = none := by simp [cw]; omega
    rw [h1]
    by_cases ha : a = i
    · subst ha
      simp [cw, hi]
    · rw [if_neg ha, h2]
theorem cw_push {G : PG} {ad ad2 : Nat → Nat} {σ σ2 : Sg} {M M2 : Mem} {q : Nat} {E : va_E} (hσ : sN σ2 = sN σ + 1) (hq : ad2 (sN σ) = q) (he : ent G ad2 σ2 M2 (sN σ) = E) (ho : ∀ i, i < sN σ → ad2 i = ad i ∧ ent G ad2 σ2 M2 i = ent G ad σ M i) : cw G ad2 σ2 M2 = cw G ad σ M ++ [(q, E)] := by
  unfold cw
  rw [hσ, List.range_succ, List.map_append]
  congr 1
  · apply List.map_congr_left
    intro i hi
    obtain ⟨h1, h2⟩ := ho i (List.mem_range.mp hi)
    rw [h1, h2]
  · simp [hq, he]
def HP (G : PG) (ad : Nat → Nat) (σ : Sg) (M : Mem) (H : Heap) : Prop := va_P G.1 vwCl (cw G ad σ M) H ∧ va_D (AA G) (cw G ad σ M)
def KU (G : PG) (U : State) : Prop := va_K G.1 vwCl (tysF G) U ∧ (∀ a i b n d h, Cond.fieldLinkNest a i b n d h ∈ lw_tbl → va_Nw (.fieldLinkNest a i b n d h) U) ∧ (∀ a i x h, Cond.methodLinkNest a i x h ∈ lw_tbl → va_Nw (.methodLinkNest a i x h) U) ∧ va_AO "AntTrails$Ground" U
theorem KU.warm {G : PG} {s U : State} (hW : s.WarmedH U.vm) (h : KU G s) : KU G U :=
  ⟨va_K.moved hW.alike h.1, fun _ _ _ _ _ _ hm => va_Nw.warmF hW (h.2.1 _ _ _ _ _ _ hm), fun _ _ _ _ hm => va_Nw.warmM hW (h.2.2.1 _ _ _ _ hm), va_AO.moved hW.alike h.2.2.2⟩
theorem KU.same {G : PG} {u U : State} (hv : u.vm = U.vm) (h : KU G u) : KU G U :=
  ⟨va_K.moved (by rw [hv]; exact Vm.Alike.refl _) h.1, fun _ _ _ _ _ _ hm => va_Nw.same rfl hv (h.2.1 _ _ _ _ _ _ hm), fun _ _ _ _ hm => va_Nw.same rfl hv (h.2.2.1 _ _ _ _ hm), va_AO.moved (by rw [hv]; exact Vm.Alike.refl _) h.2.2.2⟩
def ZU (G : PG) (ad : Nat → Nat) (σ : Sg) (M : Mem) (U : State) (H : Heap) : Prop := (∀ i, sT σ i = 9 → va_T .int (ad i) (sL σ i) (fun j => .int (M i j)) (AA G) U H) ∧ (sT σ 1000 = 9 ∧ va_Z "AntTrails" "AT_FIRST" "[I" (.ref (ad 1000)) (AA G) U H) ∧ (sT σ 1001 = 9 ∧ va_Z "AntTrails" "LEAST" "[I" (.ref (ad 1001)) (AA G) U H) ∧ (sT σ 1002 = 9 ∧ va_Z "AntTrails" "MOST" "[I" (.ref (ad 1002)) (AA G) U H)
theorem ZU.moved {G : PG} {ad : Nat → Nat} {σ : Sg} {M : Mem} {u U : State} {H : Heap} (hvm : u.vm.Alike U.vm) (h : ZU G ad σ M u H) : ZU G ad σ M U H :=
  ⟨fun i hi => (h.1 i hi).moved hvm, ⟨h.2.1.1, h.2.1.2.moved hvm⟩, ⟨h.2.2.1.1, h.2.2.1.2.moved hvm⟩, ⟨h.2.2.2.1, h.2.2.2.2.moved hvm⟩⟩
theorem ZU.kept {G : PG} {ad : Nat → Nat} {σ : Sg} {M : Mem} {U : State} {H H1 : Heap} (h : ZU G ad σ M U H) (hq : ∀ a : Nat, a < H.size → ¬ AA G a → H1[a]? = H[a]?) : ZU G ad σ M U H1 :=
  ⟨fun i hi => (h.1 i hi).kept hq, ⟨h.2.1.1, h.2.1.2.kept hq⟩, ⟨h.2.2.1.1, h.2.2.1.2.kept hq⟩, ⟨h.2.2.2.1, h.2.2.2.2.kept hq⟩⟩
/-- the fixed rows stay what they are -/
theorem ZU.to {G : PG} {ad ad2 : Nat → Nat} {σ σ2 : Sg} {M M2 : Mem} {U : State} {H : Heap} (h : ZU G ad σ M U H) (h9 : ∀ i, sT σ2 i = 9 ↔ sT σ i = 9) (hs : ∀ i, sT σ i = 9 → ad2 i = ad i ∧ sL σ2 i = sL σ i ∧ M2 i = M i) : ZU G ad2 σ2 M2 U H := by
  refine ⟨fun i hi => ?_, ⟨(h9 _).mpr h.2.1.1, ?_⟩, ⟨(h9 _).mpr h.2.2.1.1, ?_⟩, ⟨(h9 _).mpr h.2.2.2.1, ?_⟩⟩
  · obtain ⟨e1, e2, e3⟩ := hs i ((h9 i).mp hi)
    rw [e1, e2, e3]
    exact h.1 i ((h9 i).mp hi)
  · rw [(hs _ h.2.1.1).1]; exact h.2.1.2
  · rw [(hs _ h.2.2.1.1).1]; exact h.2.2.1.2
  · rw [(hs _ h.2.2.2.1).1]; exact h.2.2.2.2
/-- references are to what there is -/
def okA (σ : Sg) (j : Nat) : Prop := j < sN σ ∨ sT σ j = 9
def okV (σ : Sg) (v : Value) : Prop := ∀ j, v = .ref j → okA σ j
def okS (σ : Sg) (st : List Value) : Prop := ∀ v ∈ st, okV σ v
def okL (σ : Sg) (ls : Lcl) : Prop := ∀ k v, lget ls k = some v → okV σ v
def wfS (σ : Sg) : Prop := (∀ i k j, sR σ i k = some j → j < sN σ) ∧ (∀ i, i < sN σ → sT σ i ≠ 9)
def AG (σ : Sg) (ad ad2 : Nat → Nat) : Prop := ∀ j, okA σ j → ad2 j = ad j
theorem AG.rf {σ : Sg} {ad : Nat → Nat} : AG σ ad ad := fun _ _ => rfl
theorem okV_i {σ : Sg} {x : Int32} : okV σ (.int x) := fun _ h => by cases h
theorem okV_n {σ : Sg} : okV σ .null := fun _ h => by cases h
theorem okV_f {σ : Sg} {x : UInt32} : okV σ (.float x) := fun _ h => by cases h
theorem okV_l {σ : Sg} {x : Int64} : okV σ (.long x) := fun _ h => by cases h
theorem okV_r {σ : Sg} {j : Nat} (h : okA σ j) : okV σ (.ref j) := fun _ e => by cases e; exact h
theorem okS_c {σ : Sg} {v : Value} {st : List Value} (h : okV σ v) (h2 : okS σ st) : okS σ (v :: st) := fun w hw => by
  rcases List.mem_cons.mp hw with rfl | hw
  · exact h
  · exact h2 w hw
theorem okS_t {σ : Sg} {v : Value} {st : List Value} (h : okS σ (v :: st)) : okS σ st := fun w hw => h w (List.mem_cons_of_mem _ hw)
theorem okS_h {σ : Sg} {v : Value} {st : List Value} (h : okS σ (v :: st)) : okV σ v := h v List.mem_cons_self
theorem okS_n {σ : Sg} : okS σ [] := fun _ h => absurd h List.not_mem_nil
theorem amap_ag {σ : Sg} {ad ad2 : Nat → Nat} (h : AG σ ad ad2) {v : Value} (hv : okV σ v) : amap ad2 v = amap ad v := by
  cases v with
  | ref j => simp only [amap, h j (hv j rfl)]
  | _ => rfl
theorem amap_agS {σ : Sg} {ad ad2 : Nat → Nat} (h : AG σ ad ad2) {st : List Value} (hv : okS σ st) : st.map (amap ad2) = st.map (amap ad) := List.map_congr_left fun v hm => amap_ag h (hv v hm)
theorem lget_lt : ∀ {ls : Lcl} {k : Nat} {v : Value}, lget ls k = some v → k < ls.length
  | [], _, _, h => by simp [lget] at h
  | _ :: _, 0, _, _ => Nat.succ_pos _
  | _ :: r, k + 1, v, h => Nat.succ_lt_succ (lget_lt (ls := r) (v := v) (by simpa [lget] using h))
theorem lset_len : ∀ {ls : Lcl} {k : Nat} {v : Option Value}, (lset ls k v).length = ls.length
  | [], _, _ => rfl
  | _ :: _, 0, _ => rfl
  | _ :: r, k + 1, v => by simp only [lset, List.length_cons]; rw [lset_len]
theorem lget_lset : ∀ {ls : Lcl} {k j : Nat} {v : Option Value} {w : Value}, lget (lset ls k v) j = some w → (j = k ∧ v = some w) ∨ (j ≠ k ∧ lget ls j = some w)
  | [], _, _, _, _, h => by simp [lset, lget] at h
  | _ :: _, 0, 0, _, _, h => Or.inl ⟨rfl, by simpa [lset, lget] using h⟩
  | _ :: _, 0, j + 1, _, _, h => Or.inr ⟨by omega, by simpa [lset, lget] using h⟩
  | _ :: _, k + 1, 0, _, _, h => Or.inr ⟨by omega, by simpa [lset, lget] using h⟩
  | _ :: r, k + 1, j + 1, v, w, h => by
    rcases lget_lset (ls := r) (k := k) (j := j) (v := v) (w := w) (by simpa [lset, lget] using h) with ⟨h1, h2⟩ | ⟨h1, h2⟩
    · exact Or.inl ⟨by omega, h2⟩
    · exact Or.inr ⟨by omega, by simpa [lget] using h2⟩
def asc (ad : Nat → Nat) (ls : Lcl) : List (Nat × Value) := (List.range ls.length).filterMap fun k => (lget ls k).map fun v => (k, amap ad v)
theorem mem_asc {ad : Nat → Nat} {ls : Lcl} {q : Nat × Value} : q ∈ asc ad ls ↔ ∃ v, lget ls q.1 = some v ∧ q.2 = amap ad v := by
  unfold asc
  rw [List.mem_filterMap]
  constructor
  · rintro ⟨k, hk, h⟩
    obtain ⟨v, h1, h2⟩ := Option.map_eq_some_iff.mp h
    subst h2
    exact ⟨v, h1, rfl⟩
  · rintro ⟨v, h1, h2⟩
    refine ⟨q.1, List.mem_range.mpr (lget_lt h1), ?_⟩
    rw [h1]
    show some (q.1, amap ad v) = some q
    rw [← h2]
theorem lv_mono {lsr : Array Slot} {n : Nat} {a b : List (Nat × Value)} (h : lv_has lsr n a) (hs : ∀ q ∈ b, q ∈ a) : lv_has lsr n b := ⟨h.1, h.2.1, fun q hq => h.2.2 q (hs q hq)⟩
theorem lv_rd {lsr : Array Slot} {n : Nat} {ad : Nat → Nat} {ls : Lcl} (h : lv_has lsr n (asc ad ls)) {k : Nat} {v : Value} (hk : lget ls k = some v) : lsr[k]? = some (.val (amap ad v)) := h.2.2 (k, amap ad v) (mem_asc.mpr ⟨v, hk, rfl⟩)
theorem asc_ag {σ : Sg} {ad ad2 : Nat → Nat} (h : AG σ ad ad2) {ls : Lcl} (hl : okL σ ls) {lsr : Array Slot} {n : Nat} (hv : lv_has lsr n (asc ad ls)) : lv_has lsr n (asc ad2 ls) := lv_mono hv fun q hq => by
  obtain ⟨v, h1, h2⟩ := mem_asc.mp hq
  exact mem_asc.mpr ⟨v, h1, by rw [h2, amap_ag h (hl _ _ h1)]⟩
theorem cat_amap {ad : Nat → Nat} {v : Value} : (amap ad v).category = v.category := by cases v <;> rfl
theorem cat_long {v : Value} (h : isLong (some v) = false) : v.category ≠ 2 := by cases v <;> simp_all [isLong, Value.category]
/-- a store of one place -/
theorem lv_st1 {lsr : Array Slot} {n k : Nat} {ad : Nat → Nat} {ls : Lcl} {x : Value} (hn : narrowAt ls k = true) (h : lv_has lsr n ((k, amap ad x) :: (asc ad ls).filter (fun q => !(q.1 == k) && !(q.1 + 1 == k && q.2.category == 2)))) : lv_has lsr n (asc ad (lset ls k (some x))) := lv_mono h fun q hq => by
  obtain ⟨v, h1, h2⟩ := mem_asc.mp hq
  rcases lget_lset h1 with ⟨e1, e2⟩ | ⟨e1, e2⟩
  · cases e2
    exact List.mem_cons.mpr (Or.inl (by rw [← h2, ← e1]))
  · refine List.mem_cons_of_mem _ (List.mem_filter.mpr ⟨mem_asc.mpr ⟨v, e2, h2⟩, ?_⟩)
    have h3 : ¬ (q.1 + 1 = k ∧ q.2.category = 2) := by
      rintro ⟨a1, a2⟩
      subst a1
      have h4 : isLong (lget ls q.1) = false := by simpa [narrowAt] using hn
      rw [e2] at h4
      rw [h2, cat_amap] at a2
      exact cat_long h4 a2
    simp only [Bool.and_eq_true, Bool.not_eq_true', beq_eq_false_iff_ne, ne_eq, Bool.and_eq_false_imp, beq_iff_eq]
    exact ⟨e1, fun a => fun b => h3 ⟨a, b⟩⟩
theorem lv_st2 {lsr : Array Slot} {n k : Nat} {ad : Nat → Nat} {ls : Lcl} {x : Value} (hn : narrowAt ls k = true) (h : lv_has lsr n ((k, amap ad x) :: (asc ad ls).filter (fun q => !(q.1 == k) && (!(q.1 == k + 1) && !(q.1 + 1 == k && q.2.category == 2))))) : lv_has lsr n (asc ad (lset (lset ls (k + 1) none) k (some x))) := lv_mono h fun q hq => by
  obtain ⟨v, h1, h2⟩ := mem_asc.mp hq
  rcases lget_lset h1 with ⟨e1, e2⟩ | ⟨e1, e2⟩
  · cases e2
    exact List.mem_cons.mpr (Or.inl (by rw [← h2, ← e1]))
  · rcases lget_lset e2 with ⟨f1, f2⟩ | ⟨f1, f2⟩
    · cases f2
    · refine List.mem_cons_of_mem _ (List.mem_filter.mpr ⟨mem_asc.mpr ⟨v, f2, h2⟩, ?_⟩)
      have h3 : ¬ (q.1 + 1 = k ∧ q.2.category = 2) := by
        rintro ⟨a1, a2⟩
        subst a1
        have h4 : isLong (lget ls q.1) = false := by simpa [narrowAt] using hn
        rw [f2] at h4
        rw [h2, cat_amap] at a2
        exact cat_long h4 a2
      simp only [Bool.and_eq_true, Bool.not_eq_true', beq_eq_false_iff_ne, ne_eq, Bool.and_eq_false_imp, beq_iff_eq]
      exact ⟨e1, f1, fun a => fun b => h3 ⟨a, b⟩⟩
theorem okL_set {σ : Sg} {ls : Lcl} {k : Nat} {v : Option Value} (h : okL σ ls) (hv : ∀ w, v = some w → okV σ w) : okL σ (lset ls k v) := fun j w hw => by
  rcases lget_lset hw with ⟨-, e⟩ | ⟨-, e⟩
  · exact hv w e
  · exact h j w e
theorem pI_some {st : List Value} {K : Int32 → List Value → Option Rs} {x : Rs} (h : pI st K = some x) : ∃ y r, st = .int y :: r ∧ K y r = some x := by
  unfold pI at h
  split at h
  · exact ⟨_, _, rfl, h⟩
  · cases h
theorem pR_some {st : List Value} {K : Nat → List Value → Option Rs} {x : Rs} (h : pR st K = some x) : ∃ y r, st = .ref y :: r ∧ K y r = some x := by
  unfold pR at h
  split at h
  · exact ⟨_, _, rfl, h⟩
  · cases h
theorem pG_some {st : List Value} {K : Int64 → List Value → Option Rs} {x : Rs} (h : pG st K = some x) : ∃ y r, st = .long y :: r ∧ K y r = some x := by
  unfold pG at h
  split at h
  · exact ⟨_, _, rfl, h⟩
  · cases h
theorem pF_some {st : List Value} {K : UInt32 → List Value → Option Rs} {x : Rs} (h : pF st K = some x) : ∃ y r, st = .float y :: r ∧ K y r = some x := by
  unfold pF at h
  split at h
  · exact ⟨_, _, rfl, h⟩
  · cases h
theorem pV_some {st : List Value} {K : Value → List Value → Option Rs} {x : Rs} (h : pV st K = some x) : ∃ v r, st = v :: r ∧ v.category = 1 ∧ K v r = some x := by
  unfold pV at h
  split at h
  · exact ⟨_, _, rfl, rfl, h⟩
  · exact ⟨_, _, rfl, rfl, h⟩
  · exact ⟨_, _, rfl, rfl, h⟩
  · exact ⟨_, _, rfl, rfl, h⟩
  · cases h
theorem ldI_some {v : Option Value} {K : Int32 → Option Rs} {x : Rs} (h : ldI v K = some x) : ∃ y, v = some (.int y) ∧ K y = some x := by
  unfold ldI at h
  split at h
  · exact ⟨_, rfl, h⟩
  · cases h
theorem ldG_some {v : Option Value} {K : Int64 → Option Rs} {x : Rs} (h : ldG v K = some x) : ∃ y, v = some (.long y) ∧ K y = some x := by
  unfold ldG at h
  split at h
  · exact ⟨_, rfl, h⟩
  · cases h
theorem ldF_some {v : Option Value} {K : UInt32 → Option Rs} {x : Rs} (h : ldF v K = some x) : ∃ y, v = some (.float y) ∧ K y = some x := by
  unfold ldF at h
  split at h
  · exact ⟨_, rfl, h⟩
  · cases h
theorem ldA_some {v : Option Value} {K : Value → Option Rs} {x : Rs} (h : ldA v K = some x) : (∃ y, v = some (.ref y) ∧ K (.ref y) = some x) ∨ (v = some .null ∧ K .null = some x) := by
  unfold ldA at h
  split at h
  · exact Or.inl ⟨_, rfl, h⟩
  · exact Or.inr ⟨rfl, h⟩
  · cases h
theorem gd_some {c : Prop} [Decidable c] {K : Option Rs} {x : Rs} (h : gd c K = some x) : c ∧ K = some x := by
  unfold gd at h
  split at h
  · rename_i hc
    exact ⟨hc, h⟩
  · cases h
theorem ixI_some {i : Int32} {n : Nat} {K : Nat → Option Rs} {x : Rs} (h : ixI i n K = some x) : vp_in i n ∧ K i.toNatClampNeg = some x := by
  unfold ixI at h
  split at h
  · cases h
  · rename_i hc
    exact ⟨hc, h⟩
theorem le4_cat {ad : Nat → Nat} {st : List Value} (h : le4 st = true) : ((st.map (amap ad)).map fun v => v.category).sum ≤ 8 := by
  have hc : ∀ v : Value, v.category ≤ 2 := fun v => by cases v <;> simp [Value.category]
  unfold le4 at h
  split at h
  · simp
  · rename_i a
    have := hc (amap ad a)
    simp; omega
  · rename_i a b
    have := hc (amap ad a); have := hc (amap ad b)
    simp; omega
  · rename_i a b c
    have := hc (amap ad a); have := hc (amap ad b); have := hc (amap ad c)
    simp; omega
  · rename_i a b c d
    have := hc (amap ad a); have := hc (amap ad b); have := hc (amap ad c); have := hc (amap ad d)
    simp; omega
  · cases h
theorem popA_some : ∀ {n : Nat} {st acc a r : List Value}, popA n st acc = some (a, r) → ∃ q, st = q ++ r ∧ a = q.reverse ++ acc ∧ q.length = n
  | 0, st, acc, a, r, h => by
    simp only [popA, Option.some.injEq, Prod.mk.injEq] at h
    exact ⟨[], by simp [h.2], by simp [h.1], rfl⟩
  | n + 1, [], acc, a, r, h => by simp [popA] at h
  | n + 1, v :: st, acc, a, r, h => by
    rw [popA] at h
    obtain ⟨q, h1, h2, h3⟩ := popA_some h
    exact ⟨v :: q, by rw [h1]; rfl, by rw [h2]; simp, by simp [h3]⟩
