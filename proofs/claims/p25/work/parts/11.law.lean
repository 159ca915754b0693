/-! THE CLAIM OUT OF ONE WALK OF THE LAW'S BODY. Your part is whole_start (and what it stands on); all else here is the same for every law, but numbers. -/
def R_law : String := "AntTrailsLaw"
def lw_P (b : Addr) (xs : List Int32) (args : Array Value) (s : State) : Prop := args = #[.ref b] ∧ s.IntsAt b xs ∧ xs.length ≤ 260 ∧ (Jvm.Cond.and given_1 narrow_1).before args s = true
/-- what a walk over the start with the record d0 says of its end, said of the start itself -/
theorem lw_closed {s t : State} {o : Outcome} {d0 : Drawn} {L : List Loc} {k n : Nat} (hd0 : s.drawn.sameBut d0 lw_cs) (hv : ∃ v, o = .returned v) (hW : (s.setDrawn d0).WarmedH t.vm) (hs : (s.setDrawn d0).sameButNew ({ t with vm := s.vm } : State) L k n) : State.butDraws s t lw_cs (fun t1 => Framed s o t1 L k n) := by
  have h2 : t.drawn = d0 := congrArg State.drawn hs.1
  refine ⟨⟨hv, hW, State.sameButNew.setDrawn hs s.drawn⟩, ?_, by decide⟩
  rw [h2]
  exact hd0
def lw_Q (_ : Array Value) (s : State) (o : Outcome) (t : State) : Prop := o = .returned (some (.int 1)) ∧ State.butDraws s t lw_cs (fun t1 => Framed s o t1 [] 600000 7302250)
def lw_Z (below : List Frame) (a : Array Value) (s : State) : State → Prop := fun t => ∃ o, t.status = .running ∧ Ended t below o ∧ lw_Q a s o t
/-- the law's own end, with 1 on the stack, nothing written that was there before, its room as the claim has it; d0: the record of draws at this point (at the entry s.drawn: begin with 'refine W.base ?_' and 'have hd0 := Drawn.sameBut.refl s.drawn lw_cs') -/
theorem lw_ret {p : Program} {l : Launch} {e : Env} {s : State} {m : MethodId} {below : List Frame} {meth : Method} {c : Code} {b : Nat} {d0 : Drawn} (hd0 : s.drawn.sameBut d0 lw_cs) (hx : p.tables.exec = Jvm.exec) (hb : c.code = code) (hr : meth.sig.returnType = ret) (hlocks : meth.locks = false) {pc : Nat} {H : Heap} {ls : Array Slot} (hdg : decode code pc = .ok (.ireturn, 1)) : W p l e room_1 (s.setDrawn d0) m #[Value.ref b] below meth c H [] 600000 7302250 (lw_Z below #[Value.ref b] s) (F0 m pc ls [.int 1]) := by
  intro T hT X
  obtain ⟨fs, hret, hrun, hended, hW, hframe⟩ := X.leave (v := some (.int 1)) (hlocks := hlocks) (fun h => by rw [hr] at h; cases h)
  have hmeth' : T.vm.method? m = some meth := X.method'
  refine ⟨T.setFrames fs, ?_, .returned (some (.int 1)), hrun, hended, rfl, lw_closed hd0 ⟨_, rfl⟩ hW hframe⟩
  jvm_step X.here [X.here.top, hx, hb, hdg, hmeth', hr, ret, narrow_b1]
  (try refine ⟨rfl, ?_⟩); (try refine ⟨rfl, ?_⟩)
  first | (intro acts; rw [hret _ acts rfl rfl rfl]) | rw [hret _ _ rfl rfl rfl]
  exact Steps.refl _
/-- what holds at the law's entry: the machine, the code, the tables' words (any of lw_tbl by 'hts w (by decide +kernel)'), the script of L ints xs at the cell b, what the Statement gives of the start (any of its parts by flat_of_before) -/
def lw_At (p : Program) (s : State) (m : MethodId) (meth : Method) (c : Code) (b L : Nat) (xs : Nat → Int32) : Prop :=
  p.tables.exec = Jvm.exec ∧ c.code = code ∧ meth.sig.returnType = ret ∧ c.maxLocals = 11 ∧ s.vm.findClass R_law = some m.cls ∧ (∀ w ∈ lw_tbl, w.before #[Value.ref b] s = true) ∧ va_X b L xs s s.heap ∧ b < s.heap.size ∧ meth.locks = false ∧ (Jvm.Cond.and given_1 narrow_1).before #[Value.ref b] s = true
def at0 (k : Nat) : Int32 := match k with
  | 0 => 4
  | 1 => 20
  | 2 => 100
  | 3 => 1
  | 4 => 10
  | 5 => 1000
  | 6 => 60
  | _ => 0
def le0 (k : Nat) : Int32 := match k with
  | 0 => 1
  | 1 => 0
  | 2 => 1
  | 3 => 0
  | 4 => 1
  | 5 => 100
  | 6 => 1
  | _ => 0
def mo0 (k : Nat) : Int32 := match k with
  | 0 => 5
  | 1 => 90
  | 2 => 999
  | 3 => 9
  | 4 => 99
  | 5 => 9999
  | 6 => 99
  | _ => 0
def t0T (i : Nat) : Nat := if i = 1000 then 9 else if i = 1001 then 9 else if i = 1002 then 9 else if i = 1003 then 9 else 0
def t0L (L i : Nat) : Nat := if i = 1003 then L else 7
def s0 (L : Nat) : Sg := (0, 0, t0T, t0L L, fun _ _ => none)
def m0 (xs : Nat → Int32) : Mem := fun i => if i = 1000 then at0 else if i = 1001 then le0 else if i = 1002 then mo0 else if i = 1003 then xs else fun _ => 0
def qEnd : Po := fun r σ _ => r = some (.int 1) ∧ sN σ ≤ 600000 ∧ sS σ ≤ 7302250
/-- a row of numbers that the class keeps as a constant, out of the premises -/
theorem cst_row {s : State} {args : Array Value} {n : String} {f : Nat → Int32} (hg : (Jvm.Cond.and given_1 narrow_1).before args s = true) (hA : Cond.arrayOf (.static "AntTrails" n "[I") .int ∈ flatC (Jvm.Cond.and given_1 narrow_1)) (hl : Cond.eq (.length (.static "AntTrails" n "[I")) (.int 7) ∈ flatC (Jvm.Cond.and given_1 narrow_1)) (he : ∀ j, j < 7 → Cond.eq (.elem (.static "AntTrails" n "[I") (.int (Int32.ofNat j))) (.int (f j)) ∈ flatC (Jvm.Cond.and given_1 narrow_1)) {A : Nat → Prop} (hAA : ∀ a : Nat, a < s.heap.size → ¬ A a) (hlay : (Cond.laysStatic "AntTrails" n "[I").before args s = true) (hini : (Cond.initialized "AntTrails").before args s = true) : ∃ t : Nat, va_Z "AntTrails" n "[I" (.ref t) A s s.heap ∧ va_T .int t 7 (fun j => .int (f j)) A s s.heap := by
  have hs := flat_of_before _ hg
  obtain ⟨t, h1, h2⟩ := va_Tof (tm := .static "AntTrails" n "[I") (ty := .int) (N := 7) (f := fun j => .int (f j)) (A := A) (by decide) (hs _ hA) (va_eqt (z := 7) (hs _ hl)) (fun j hj => va_eqt (hs _ (he j hj))) hAA
  exact ⟨t, va_Zof hlay hini h1 hAA, h2⟩
theorem lt7 {P : Nat → Prop} (h0 : P 0) (h1 : P 1) (h2 : P 2) (h3 : P 3) (h4 : P 4) (h5 : P 5) (h6 : P 6) : ∀ j, j < 7 → P j := fun j hj => by
  match j, hj with
  | 0, _ => exact h0
  | 1, _ => exact h1
  | 2, _ => exact h2
  | 3, _ => exact h3
  | 4, _ => exact h4
  | 5, _ => exact h5
  | 6, _ => exact h6
  | j + 7, hj => exact absurd hj (by omega)
theorem wk_l0 : Cond.laysStatic "AntTrails" "AT_FIRST" "[I" ∈ lw_tbl := wd_66
theorem wk_l1 : Cond.laysStatic "AntTrails" "LEAST" "[I" ∈ lw_tbl := wd_613
theorem wk_l2 : Cond.laysStatic "AntTrails" "MOST" "[I" ∈ lw_tbl := wd_615
theorem wk_ia : Cond.initialized "AntTrails" ∈ lw_tbl := wd_14
theorem wk_ao : Cond.arrayOver (.object "AntTrails$Ground") ∈ lw_tbl := wd_155
theorem ka_of {s : State} {args : Array Value} (ty : FieldType) (h : (Cond.arrayClass ty).before args s = true) (hr : ∀ cA : ClassId, s.vm.findClass ("[" ++ ty.toString) = some cA → va_RA s cA ty) (hp : ty.isReference = false) : ∃ cA : ClassId, ArrOfT s cA ty ∧ va_RA s cA ty := by
  obtain ⟨cA, kA, comp, h1, h2, h3⟩ := Cond.arrayClass_spec h
  exact ⟨cA, fun n z => ⟨fun k q => (by cases q), kA, h2, comp, h3⟩, hr cA h1⟩
theorem ku_law {s : State} {args : Array Value} (hts : ∀ w ∈ lw_tbl, w.before args s = true) (hz : Nat) : ∃ G : PG, KU G s ∧ G.2.2.2.2 = hz := by
  have hk : ∀ c, ∃ q : ClassId × (Nat → Nat), c < 7 → u_Kn s (cN c) (cT c) (cF c) q.1 q.2 := by
    intro c
    by_cases hc : c < 7
    · obtain ⟨c0, i0, h⟩ := u_known hts (fun w hw => (List.mem_filter.mp (uw_ok c hc w hw)).1) (hts _ (in_ok c hc))
      exact ⟨(c0, i0), fun _ => h⟩
    · exact ⟨(0, fun _ => 0), fun h => absurd h hc⟩
  obtain ⟨cI, i1, i2⟩ := ka_of .int (hts _ wk_ai) (fun _ h => h) rfl
  obtain ⟨cC, c1, c2⟩ := ka_of .char (hts _ wk_ac) (fun _ h => h) rfl
  obtain ⟨comp, cG, kG, g1, -, g3, g4, g5⟩ := Cond.arrayOver_spec (hts _ wk_ao)
  refine ⟨((fun c => (Classical.choose (hk c)).1, fun c => (Classical.choose (hk c)).2), cI, cC, cG, hz), ⟨⟨fun c q hq => ?_, fun k q hq => ?_⟩, fun a i b n d h hm => va_Nw.of rfl (hts _ hm), fun a i x h hm => va_Nw.of rfl (hts _ hm), va_AO.of (hts _ wk_ao)⟩, rfl⟩
  · have hc : c < 7 := (List.getElem?_eq_some_iff.mp hq).1
    have e := (vw_ok c hc).symm.trans hq
    cases e
    exact Classical.choose_spec (hk c) hc
  · match k, hq with
    | 0, hq => cases hq; exact ⟨i1, i2⟩
    | 1, hq => cases hq; exact ⟨c1, c2⟩
    | 2, hq => cases hq; exact ⟨fun n z => ⟨fun k q => (by cases q), kG, g3, comp, g4⟩, kG, comp, g3, g4, g1, g5⟩
    | k + 3, hq => cases hq
set_option maxHeartbeats 2000000 in
/-- THE LAW, from its entry, out of a run of the machine in words -/
theorem start_of (hpure : ∀ (L : Nat) (xs : Nat → Int32), L ≤ 260 → wp 0 0 [some (.ref 1003), none, none, none, none, none, none, none, none, none, none] [] (s0 L) (m0 xs) qEnd) {p : Program} {e : Env} {s : State} {m : MethodId} {below : List Frame} {meth : Method} {c : Code} (l : Launch) {b L : Nat} {xs : Nat → Int32} (hL : L ≤ 260) (C0 : lw_At p s m meth c b L xs) : W p l e room_1 s m #[Value.ref b] below meth c s.heap [] 0 0 (lw_Z below #[Value.ref b] s) (entryFrame m ([Value.ref b] : List Value).toArray 11) := by
  obtain ⟨hx, hb, hr, hml, hown, hts, hX, hbl, hlocks, hgv⟩ := id C0
  obtain ⟨f, r, σ1, M1, hex, rfl, hn1, hs1⟩ := hpure L xs hL
  obtain ⟨G, hKU, hGz⟩ := ku_law hts s.heap.size
  have hAA : ∀ a : Nat, a < s.heap.size → ¬ AA G a := fun a h1 h2 => by
    unfold AA at h2
    omega
  have hini := hts _ wk_ia
  obtain ⟨a0, z0, r0⟩ := cst_row (n := "AT_FIRST") (f := at0) hgv (by decide +kernel) (by decide +kernel) (lt7 (by decide +kernel) (by decide +kernel) (by decide +kernel) (by decide +kernel) (by decide +kernel) (by decide +kernel) (by decide +kernel)) hAA (hts _ wk_l0) hini
  obtain ⟨a1, z1, r1⟩ := cst_row (n := "LEAST") (f := le0) hgv (by decide +kernel) (by decide +kernel) (lt7 (by decide +kernel) (by decide +kernel) (by decide +kernel) (by decide +kernel) (by decide +kernel) (by decide +kernel) (by decide +kernel)) hAA (hts _ wk_l1) hini
  obtain ⟨a2, z2, r2⟩ := cst_row (n := "MOST") (f := mo0) hgv (by decide +kernel) (by decide +kernel) (lt7 (by decide +kernel) (by decide +kernel) (by decide +kernel) (by decide +kernel) (by decide +kernel) (by decide +kernel) (by decide +kernel)) hAA (hts _ wk_l2) hini
  have r3 : va_T .int b L (fun j => .int (xs j)) (AA G) s s.heap := by
    obtain ⟨scr, h1, h2, h3, h4, h5⟩ := hX
    refine ⟨scr, h1, h2, h3, by rw [h4]; exact Nat.le_refl _, by rw [h4]; try rfl, h5, hAA b hbl⟩
  obtain ⟨ad, e0, e1, e2, e3⟩ : ∃ ad : Nat → Nat, ad 1000 = a0 ∧ ad 1001 = a1 ∧ ad 1002 = a2 ∧ ad 1003 = b := ⟨fun i => if i = 1000 then a0 else if i = 1001 then a1 else if i = 1002 then a2 else b, rfl, rfl, rfl, rfl⟩
  have hZ : ZU G ad (s0 L) (m0 xs) s s.heap := by
    refine ⟨fun i hi => ?_, ⟨rfl, by rw [e0]; exact z0⟩, ⟨rfl, by rw [e1]; exact z1⟩, ⟨rfl, by rw [e2]; exact z2⟩⟩
    have hi4 : i = 1000 ∨ i = 1001 ∨ i = 1002 ∨ i = 1003 := by
      have h2 : t0T i = 9 := hi
      unfold t0T at h2
      split at h2
      · omega
      · split at h2
        · omega
        · split at h2
          · omega
          · split at h2
            · omega
            · cases h2
    rcases hi4 with rfl | rfl | rfl | rfl
    · rw [e0]; exact r0
    · rw [e1]; exact r1
    · rw [e2]; exact r2
    · rw [e3]; exact r3
  have hl := lv_entry ([.ref b]) (n := 11) (Nat.le_of_ble_eq_true rfl)
  rw [lg_entry_eq]
  generalize (lg_sl ([.ref b]) ++ List.replicate (11 - (lg_sl ([.ref b])).length) Slot.unset).toArray = lsr at hl ⊢
  have hd0 := Drawn.sameBut.refl s.drawn lw_cs
  have hcw : cw G ad (s0 L) (m0 xs) = [] := rfl
  have hHP0 : HP G ad (s0 L) (m0 xs) s.heap := by
    unfold HP
    rw [hcw]
    exact ⟨fun k q h => by simp at h, fun i j q1 q2 h => by simp at h, fun k q h => by simp at h⟩
  have hwf0 : wfS (s0 L) := ⟨fun i k j h => (by cases h), fun i h => absurd h (Nat.not_lt_zero _)⟩
  have hCF : CF G p room_1 (s.setDrawn s.drawn) m #[Value.ref b] meth c 0 := ⟨hx, hb, hml, hown, fun w hw => dr_words hts _ w (List.mem_filter.mp hw).1, hKU, fun h => absurd h (by decide +kernel), by show mK 0 ≤ 12; decide, by show 36 * mK 0 ≤ 490; decide, by rw [hGz]; exact Nat.le_refl _⟩
  refine W.base ?_
  refine fs_all f 0 0 [some (.ref 1003), none, none, none, none, none, none, none, none, none, none] [] (s0 L) (m0 xs) _ σ1 M1 hex G p l e room_1 (s.setDrawn s.drawn) m #[Value.ref b] below meth c _ hCF ad s.heap [] 0 0 lsr ⟨hHP0, hZ, va_S.rf, hwf0, okS_n, ?_, ?_, rfl⟩ ?_ ?_ ?_
  · intro k v hk
    match k, hk with
    | 0, hk => cases hk; exact okV_r (Or.inr rfl)
    | 1, hk => cases hk
    | 2, hk => cases hk
    | 3, hk => cases hk
    | 4, hk => cases hk
    | 5, hk => cases hk
    | 6, hk => cases hk
    | 7, hk => cases hk
    | 8, hk => cases hk
    | 9, hk => cases hk
    | 10, hk => cases hk
    | k + 11, hk => cases hk
  · refine lv_mono hl fun q hq => ?_
    obtain ⟨v, h1, h2⟩ := mem_asc.mp hq
    obtain ⟨k, w⟩ := q
    match k, h1, h2 with
    | 0, h1, h2 =>
      cases h1
      refine List.mem_cons.mpr (Or.inl ?_)
      have h3 : w = amap ad (.ref 1003) := h2
      rw [h3]
      simp only [amap, e3]
    | 1, h1, _ => cases h1
    | 2, h1, _ => cases h1
    | 3, h1, _ => cases h1
    | 4, h1, _ => cases h1
    | 5, h1, _ => cases h1
    | 6, h1, _ => cases h1
    | 7, h1, _ => cases h1
    | 8, h1, _ => cases h1
    | 9, h1, _ => cases h1
    | 10, h1, _ => cases h1
    | k + 11, h1, _ => cases h1
  · show 0 + sN σ1 ≤ 600000 + 0
    omega
  · show 0 + sS σ1 ≤ 7302250 + 0
    omega
  · intro pc2 npc a b2 d w ins cv sw lsr2 H2 locs2 ad2 he hrt hHP hag hS2 hwf2
    have hg := fe_good he
    have hd := dec_of_good hg
    rcases hrt with ⟨v, hv, rfl, hok⟩ | ⟨h, -⟩ | ⟨v, h, -⟩
    · cases hv
      simp only [good, Bool.and_eq_true, decide_eq_true_eq] at hg
      obtain ⟨-, rfl, hcv⟩ := hg
      rw [Nat.add_sub_cancel_left] at hd
      refine va_forget (fun q hq => ?_) ?_
      · have := hS2.2.2 q hq
        unfold AA at this
        rw [hGz] at this
        exact this
      · exact lw_ret hd0 hx hb hr hlocks hd
    · cases h
    · cases h
