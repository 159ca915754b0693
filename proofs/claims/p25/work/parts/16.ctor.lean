/-! the row 1003 may be changed under a run that never meets it -/
def chS (L : Nat) (σ : Sg) : Sg := (sN σ, sS σ, sT σ, upM (sL σ) 1003 L, sR σ)
def chM (xs : Nat → Int32) (M : Mem) : Mem := upM M 1003 xs
def chX (L : Nat) (xs : Nat → Int32) (x : Rs) : Rs := match x with
  | .inl (pc, ls, st, σ, M) => .inl (pc, ls, st, chS L σ, chM xs M)
  | .inr y => .inr y
def nrV (v : Value) : Prop := v ≠ .ref 1003
def nrS (st : List Value) : Prop := ∀ v ∈ st, nrV v
def nrL (ls : Lcl) : Prop := ∀ k v, lget ls k = some v → nrV v
def nrH (σ : Sg) : Prop := sT σ 1003 = 9 ∧ ∀ i k, sR σ i k ≠ some 1003
def nrX (x : Rs) : Prop := match x with
  | .inl (_, ls, st, σ, _) => nrL ls ∧ nrS st ∧ nrH σ
  | .inr (.inl (_, ls, rest)) => nrL ls ∧ nrS rest
  | .inr (.inr _) => True
def CI (L : Nat) (xs : Nat → Int32) (x y : Option Rs) : Prop := ∀ z, x = some z → y = some (chX L xs z) ∧ nrX z
theorem nrS_c {v : Value} {st : List Value} (h : nrV v) (h2 : nrS st) : nrS (v :: st) := fun w hw => by
  rcases List.mem_cons.mp hw with rfl | hw
  · exact h
  · exact h2 w hw
theorem nrS_t {v : Value} {st : List Value} (h : nrS (v :: st)) : nrS st := fun w hw => h w (List.mem_cons_of_mem _ hw)
theorem nrS_h {v : Value} {st : List Value} (h : nrS (v :: st)) : nrV v := h v List.mem_cons_self
theorem nrV_i {x : Int32} : nrV (.int x) := fun h => by cases h
theorem nrV_l {x : Int64} : nrV (.long x) := fun h => by cases h
theorem nrV_f {x : UInt32} : nrV (.float x) := fun h => by cases h
theorem nrV_n : nrV .null := fun h => by cases h
theorem nrV_r {j : Nat} (h : nrV (.ref j)) : j ≠ 1003 := fun e => h (by rw [e])
section CIS
variable {L : Nat} {xs : Nat → Int32}
theorem ci_n {y : Option Rs} : CI L xs none y := fun z h => by cases h
theorem ci_go {pc : Nat} {ls : Lcl} {st : List Value} {σ σ2 : Sg} {M M2 : Mem} (h1 : nrL ls) (h2 : nrS st) (h3 : nrH σ) (e1 : σ2 = chS L σ) (e2 : M2 = chM xs M) : CI L xs (go pc ls st σ M) (go pc ls st σ2 M2) := fun z h => by
  rw [go_inl h, e1, e2]
  exact ⟨rfl, h1, h2, h3⟩
theorem ci_pI {st : List Value} {K K2 : Int32 → List Value → Option Rs} (hn : nrS st) (h : ∀ y r, nrS r → CI L xs (K y r) (K2 y r)) : CI L xs (pI st K) (pI st K2) := by
  unfold pI; split
  · exact h _ _ (nrS_t hn)
  · exact ci_n
theorem ci_pR {st : List Value} {K K2 : Nat → List Value → Option Rs} (hn : nrS st) (h : ∀ y r, y ≠ 1003 → nrS r → CI L xs (K y r) (K2 y r)) : CI L xs (pR st K) (pR st K2) := by
  unfold pR; split
  · exact h _ _ (nrV_r (nrS_h hn)) (nrS_t hn)
  · exact ci_n
theorem ci_pG {st : List Value} {K K2 : Int64 → List Value → Option Rs} (hn : nrS st) (h : ∀ y r, nrS r → CI L xs (K y r) (K2 y r)) : CI L xs (pG st K) (pG st K2) := by
  unfold pG; split
  · exact h _ _ (nrS_t hn)
  · exact ci_n
theorem ci_pF {st : List Value} {K K2 : UInt32 → List Value → Option Rs} (hn : nrS st) (h : ∀ y r, nrS r → CI L xs (K y r) (K2 y r)) : CI L xs (pF st K) (pF st K2) := by
  unfold pF; split
  · exact h _ _ (nrS_t hn)
  · exact ci_n
theorem ci_pV {st : List Value} {K K2 : Value → List Value → Option Rs} (hn : nrS st) (h : ∀ y r, nrV y → nrS r → CI L xs (K y r) (K2 y r)) : CI L xs (pV st K) (pV st K2) := by
  unfold pV; split
  · exact h _ _ (nrS_h hn) (nrS_t hn)
  · exact h _ _ (nrS_h hn) (nrS_t hn)
  · exact h _ _ (nrS_h hn) (nrS_t hn)
  · exact h _ _ (nrS_h hn) (nrS_t hn)
  · exact ci_n
theorem ci_ldI {v : Option Value} {K K2 : Int32 → Option Rs} (h : ∀ y, CI L xs (K y) (K2 y)) : CI L xs (ldI v K) (ldI v K2) := by
  unfold ldI; split
  · exact h _
  · exact ci_n
theorem ci_ldG {v : Option Value} {K K2 : Int64 → Option Rs} (h : ∀ y, CI L xs (K y) (K2 y)) : CI L xs (ldG v K) (ldG v K2) := by
  unfold ldG; split
  · exact h _
  · exact ci_n
theorem ci_ldF {v : Option Value} {K K2 : UInt32 → Option Rs} (h : ∀ y, CI L xs (K y) (K2 y)) : CI L xs (ldF v K) (ldF v K2) := by
  unfold ldF; split
  · exact h _
  · exact ci_n
theorem ci_ldA {v : Option Value} {K K2 : Value → Option Rs} (h : ∀ y, v = some y → CI L xs (K y) (K2 y)) : CI L xs (ldA v K) (ldA v K2) := by
  unfold ldA; split
  · exact h _ rfl
  · exact h _ rfl
  · exact ci_n
theorem ci_gd {c c2 : Prop} [Decidable c] [Decidable c2] {K K2 : Option Rs} (hc : c → c2) (h : c → CI L xs K K2) : CI L xs (gd c K) (gd c2 K2) := by
  unfold gd; split
  · rename_i q
    rw [if_pos (hc q)]
    exact h q
  · exact ci_n
theorem ci_ixI {i : Int32} {n n2 : Nat} {K K2 : Nat → Option Rs} (hn : n2 = n) (h : ∀ k, CI L xs (K k) (K2 k)) : CI L xs (ixI i n K) (ixI i n2 K2) := by
  subst hn
  unfold ixI; split
  · exact ci_n
  · exact h _
theorem nrL_set {ls : Lcl} {k : Nat} {v : Option Value} (h : nrL ls) (hv : ∀ w, v = some w → nrV w) : nrL (lset ls k v) := fun j w hw => by
  rcases lget_lset hw with ⟨-, e⟩ | ⟨-, e⟩
  · exact hv w e
  · exact h j w e
theorem ci_st1 {ls : Lcl} {k : Nat} {v : Value} {K K2 : Lcl → Option Rs} (hl : nrL ls) (hv : nrV v) (h : ∀ l, nrL l → CI L xs (K l) (K2 l)) : CI L xs (st1 ls k v K) (st1 ls k v K2) :=
  ci_gd id fun _ => h _ (nrL_set hl fun w e => by cases e; exact hv)
theorem ci_st2 {ls : Lcl} {k : Nat} {v : Value} {K K2 : Lcl → Option Rs} (hl : nrL ls) (hv : nrV v) (h : ∀ l, nrL l → CI L xs (K l) (K2 l)) : CI L xs (st2 ls k v K) (st2 ls k v K2) :=
  ci_gd id fun _ => h _ (nrL_set (nrL_set hl fun w e => by cases e) fun w e => by cases e; exact hv)
theorem chM_ne {M : Mem} {o : Nat} (h : o ≠ 1003) : chM xs M o = M o := upM_n h
theorem chL_ne {σ : Sg} {o : Nat} (h : o ≠ 1003) : sL (chS L σ) o = sL σ o := upM_n h
theorem chM_up {M : Mem} {o : Nat} {f : Nat → Int32} (h : o ≠ 1003) : upM (chM xs M) o f = chM xs (upM M o f) := by
  funext b
  unfold chM upM
  by_cases h1 : b = o
  · subst h1; simp [h]
  · simp [h1]
theorem nrS_rev {n : Nat} {st acc a r : List Value} (h : popA n st acc = some (a, r)) (hs : nrS st) (ha : nrS acc) : nrS a ∧ nrS r := by
  obtain ⟨q, h1, h2, -⟩ := popA_some h
  subst h1 h2
  exact ⟨fun v hv => (List.mem_append.mp hv).elim (fun z => hs v (List.mem_append_left _ (List.mem_reverse.mp z))) (ha v), fun v hv => hs v (List.mem_append_right _ hv)⟩
theorem nrL_ini {b : Nat} : ∀ {vs : List Value}, nrS vs → nrL (iniL vs b)
  | [], _ => fun k v h => (lget_rep (b := b) (k := k) (v := v) (by simpa [iniL] using h)).elim
  | u :: r, h => fun k v hk => by
    cases k with
    | zero =>
      have e : u = v := by simpa [iniL, lget] using hk
      exact e ▸ nrS_h h
    | succ k => exact nrL_ini (nrS_t h) k v (by simpa [iniL, lget] using hk)
theorem ci_call {σ : Sg} {a b d n : Nat} {st : List Value} (hs : nrS st) : CI L xs (doCall σ a b d (popA n st [])) (doCall (chS L σ) a b d (popA n st [])) := fun z h => by
  obtain ⟨args, rest, hp, h4, hn, rfl, hd⟩ := doCall_some h
  obtain ⟨h1, h2⟩ := nrS_rev hp hs (fun _ q => absurd q List.not_mem_nil)
  refine ⟨?_, nrL_ini h1, h2⟩
  rw [hp]
  simp only [doCall, h4, hn, Bool.and_self, if_true]
  by_cases h0 : d = 0
  · rw [if_pos h0]; rfl
  · obtain ⟨o, tl, rfl, ht⟩ := hd h0
    rw [if_neg h0]
    show (if sT σ o = d then _ else _) = _
    rw [if_pos ht]
    rfl
theorem ci_spec {a npc : Nat} {ls : Lcl} {st : List Value} {σ : Sg} {M : Mem} (hl : nrL ls) (hs : nrS st) (hH : nrH σ) : CI L xs (spec a npc ls st σ M) (spec a npc ls st (chS L σ) (chM xs M)) := by
  unfold spec
  split
  · exact ci_pR hs fun _ _ _ h => ci_gd id fun _ => ci_go hl h hH rfl rfl
  · split
    · exact ci_pI hs fun _ _ h => ci_pI h fun _ _ h => ci_gd id fun _ => ci_go hl (nrS_c nrV_i h) hH rfl rfl
    · split
      · exact ci_pI hs fun _ _ h => ci_pI h fun _ _ h => ci_gd id fun _ => ci_go hl (nrS_c nrV_i h) hH rfl rfl
      · exact ci_pF hs fun _ _ h => ci_gd id fun _ => ci_go hl (nrS_c nrV_i h) hH rfl rfl
theorem nr_rf {σ : Sg} (hH : nrH σ) {i k : Nat} : nrV (va_rf (sR σ i k)) := fun e => by
  cases h : sR σ i k with
  | none => rw [h] at e; cases e
  | some z => rw [h] at e; cases e; exact hH.2 i k h
theorem nr_getF {σ : Sg} (hH : nrH σ) {i k : Nat} {cv : Value} {x : Int32} : nrV (getF cv (sR σ i k) x) := by
  unfold getF
  split
  · exact nr_rf hH
  · exact nrV_i
theorem nrH_set {σ : Sg} (hH : nrH σ) {o k v : Nat} (hv : v ≠ 1003) : nrH (setR σ o (upM (sR σ o) k (some v))) := by
  refine ⟨hH.1, fun i j e => ?_⟩
  rw [sR_set] at e
  unfold upM at e
  split at e
  · dsimp only at e
    split at e
    · cases e; exact hv rfl
    · exact hH.2 o j e
  · exact hH.2 i j e
theorem nrH_al {σ : Sg} (hH : nrH σ) {t l k : Nat} (h9 : ¬ sT σ (sN σ) = 9) : nrH (alloc σ t l k) := by
  have hne : (1003 : Nat) ≠ sN σ := fun e => h9 (by rw [← e]; exact hH.1)
  refine ⟨by rw [sT_al, upM_n hne]; exact hH.1, fun i j e => ?_⟩
  rw [sR_al] at e
  unfold upM at e
  split at e
  · cases e
  · exact hH.2 i j e
theorem ch_al {σ : Sg} (hH : nrH σ) {t l k : Nat} (h9 : ¬ sT σ (sN σ) = 9) : alloc (chS L σ) t l k = chS L (alloc σ t l k) := by
  have hne : sN σ ≠ 1003 := fun e => h9 (by rw [e]; exact hH.1)
  have h : upM (upM (sL σ) 1003 L) (sN σ) l = upM (upM (sL σ) (sN σ) l) 1003 L := by
    funext b
    unfold upM
    by_cases h1 : b = sN σ
    · subst h1; simp [hne]
    · simp [h1]
  show (sN σ + 1, sS σ + k, upM (sT σ) (sN σ) t, upM (upM (sL σ) 1003 L) (sN σ) l, upM (sR σ) (sN σ) (fun _ => none)) = _
  rw [h]
  rfl
set_option maxHeartbeats 4000000 in
theorem ci_stA {ins : Instr} {npc a b d : Nat} {cv : Value} {sw : List (Int32 × Nat)} {ls : Lcl} {st : List Value} {σ : Sg} {M : Mem} (ha : ∀ k, ins = .getstatic k → a ≠ 1003) (hcv : nrV cv) (hl : nrL ls) (hs : nrS st) (hH : nrH σ) : CI L xs (stA ins npc a b d cv sw ls st σ M) (stA ins npc a b d cv sw ls st (chS L σ) (chM xs M)) := by
  have hne : ¬ sT σ (sN σ) = 9 → sN σ ≠ 1003 := fun h e => h (by rw [e]; exact hH.1)
  cases ins
  case getstatic k =>
    simp only [stA]
    exact ci_go hl (nrS_c (fun e => by cases e; exact ha k rfl rfl) hs) hH rfl rfl
  case getfield k =>
    simp only [stA]
    exact ci_pR hs fun o r ho h => ci_gd id fun _ => by
      rw [chM_ne ho]
      exact ci_go hl (nrS_c (nr_getF hH) h) hH rfl rfl
  case putfield k =>
    simp only [stA, putF]
    split
    · exact ci_pR hs fun v r hv h => ci_pR h fun o r ho h => ci_gd id fun _ => ci_go hl h (nrH_set hH hv) rfl rfl
    · exact ci_pI hs fun x r h => ci_pR h fun o r ho h => ci_gd id fun _ => by
        rw [chM_ne ho, chM_up ho]
        exact ci_go hl h hH rfl rfl
  case arraylength =>
    simp only [stA]
    exact ci_pR hs fun o r ho h => ci_gd id fun _ => by
      rw [chL_ne ho]
      exact ci_go hl (nrS_c nrV_i h) hH rfl rfl
  case iaload =>
    simp only [stA]
    exact ci_pI hs fun i r h => ci_pR h fun o r ho h => ci_gd id fun _ => ci_ixI (chL_ne ho) fun k => by
      rw [chM_ne ho]
      exact ci_go hl (nrS_c nrV_i h) hH rfl rfl
  case caload =>
    simp only [stA]
    exact ci_pI hs fun i r h => ci_pR h fun o r ho h => ci_gd id fun _ => ci_ixI (chL_ne ho) fun k => by
      rw [chM_ne ho]
      exact ci_go hl (nrS_c nrV_i h) hH rfl rfl
  case aaload =>
    simp only [stA]
    exact ci_pI hs fun i r h => ci_pR h fun o r ho h => ci_gd id fun _ => ci_ixI (chL_ne ho) fun k => ci_go hl (nrS_c (nr_rf hH) h) hH rfl rfl
  case iastore =>
    simp only [stA]
    exact ci_pI hs fun x r h => ci_pI h fun i r h => ci_pR h fun o r ho h => ci_gd id fun _ => ci_ixI (chL_ne ho) fun k => by
      rw [chM_ne ho, chM_up ho]
      exact ci_go hl h hH rfl rfl
  case castore =>
    simp only [stA]
    exact ci_pI hs fun x r h => ci_pI h fun i r h => ci_pR h fun o r ho h => ci_gd id fun _ => ci_ixI (chL_ne ho) fun k => by
      rw [chM_ne ho, chM_up ho]
      exact ci_go hl h hH rfl rfl
  case aastore =>
    simp only [stA]
    exact ci_pR hs fun v r hv h => ci_pI h fun i r h => ci_pR h fun o r ho h => ci_gd id fun _ => ci_ixI (chL_ne ho) fun k => ci_go hl h (nrH_set hH hv) rfl rfl
  case new k =>
    simp only [stA]
    exact ci_gd id fun h9 => ci_go hl (nrS_c (fun e => hne h9 (Value.ref.inj e)) hs) (nrH_al hH h9) (ch_al hH h9) (chM_up (hne h9))
  case newarray k =>
    simp only [stA]
    exact ci_pI hs fun n r h => ci_gd id fun h9 => ci_ixI rfl fun k => ci_go hl (nrS_c (fun e => hne h9 (Value.ref.inj e)) h) (nrH_al hH h9) (ch_al hH h9) (chM_up (hne h9))
  case anewarray k =>
    simp only [stA]
    exact ci_pI hs fun n r h => ci_gd id fun h9 => ci_ixI rfl fun k => ci_go hl (nrS_c (fun e => hne h9 (Value.ref.inj e)) h) (nrH_al hH h9) (ch_al hH h9) (chM_up (hne h9))
  case ireturn =>
    simp only [stA]
    split
    · exact ci_gd id fun _ z e => by cases e; exact ⟨rfl, trivial⟩
    · exact ci_n
  case return_ =>
    simp only [stA]
    split
    · exact fun z e => by cases e; exact ⟨rfl, trivial⟩
    · exact ci_n
  case lreturn =>
    simp only [stA]
    split
    · exact fun z e => by cases e; exact ⟨rfl, trivial⟩
    · exact ci_n
  case invokevirtual k =>
    simp only [stA]
    exact ci_call hs
  case invokestatic k =>
    simp only [stA]
    split
    · exact ci_call hs
    · exact ci_spec hl hs hH
  case invokespecial k =>
    simp only [stA]
    split
    · exact ci_call hs
    · exact ci_spec hl hs hH
  all_goals simp only [stA]
  all_goals first
    | exact ci_go hl hs hH rfl rfl
    | exact ci_go hl (nrS_c hcv hs) hH rfl rfl
    | exact ci_n
    | exact ci_ldI fun _ => ci_go hl (nrS_c nrV_i hs) hH rfl rfl
    | exact ci_ldI fun _ => ci_st1 hl nrV_i fun _ hl2 => ci_go hl2 hs hH rfl rfl
    | exact ci_ldG fun _ => ci_go hl (nrS_c nrV_l hs) hH rfl rfl
    | exact ci_ldF fun _ => ci_go hl (nrS_c nrV_f hs) hH rfl rfl
    | exact ci_ldA fun y e => ci_go hl (nrS_c (hl _ y e) hs) hH rfl rfl
    | exact ci_pI hs fun _ _ h => ci_go hl h hH rfl rfl
    | exact ci_pI hs fun _ _ h => ci_go hl (nrS_c nrV_l h) hH rfl rfl
    | exact ci_pI hs fun _ _ h => ci_go hl (nrS_c nrV_i h) hH rfl rfl
    | exact ci_pI hs fun _ _ h => ci_go hl (nrS_c nrV_f h) hH rfl rfl
    | exact ci_pI hs fun _ _ h => ci_st1 hl nrV_i fun _ hl2 => ci_go hl2 h hH rfl rfl
    | exact ci_pI hs fun _ _ h => ci_pI h fun _ _ h => ci_go hl (nrS_c nrV_i h) hH rfl rfl
    | exact ci_pI hs fun _ _ h => ci_pI h fun _ _ h => ci_go hl h hH rfl rfl
    | exact ci_pI hs fun _ _ h => ci_pI h fun _ _ h => ci_gd id fun _ => ci_go hl (nrS_c nrV_i h) hH rfl rfl
    | exact ci_pR hs fun _ _ _ h => ci_go hl h hH rfl rfl
    | exact ci_pR hs fun y _ hy h => ci_st1 hl (fun e => by cases e; exact hy rfl) fun _ hl2 => ci_go hl2 h hH rfl rfl
    | exact ci_pF hs fun _ _ h => ci_go hl (nrS_c nrV_i h) hH rfl rfl
    | exact ci_pF hs fun _ _ h => ci_st1 hl nrV_f fun _ hl2 => ci_go hl2 h hH rfl rfl
    | exact ci_pF hs fun _ _ h => ci_pF h fun _ _ h => ci_go hl (nrS_c nrV_i h) hH rfl rfl
    | exact ci_pF hs fun _ _ h => ci_pF h fun _ _ h => ci_gd id fun _ => ci_go hl (nrS_c nrV_f h) hH rfl rfl
    | exact ci_pG hs fun _ _ h => ci_go hl (nrS_c nrV_i h) hH rfl rfl
    | exact ci_pG hs fun _ _ h => ci_st2 hl nrV_l fun _ hl2 => ci_go hl2 h hH rfl rfl
    | exact ci_pG hs fun _ _ h => ci_pG h fun _ _ h => ci_go hl (nrS_c nrV_l h) hH rfl rfl
    | exact ci_pG hs fun _ _ h => ci_pG h fun _ _ h => ci_go hl (nrS_c nrV_i h) hH rfl rfl
    | exact ci_pG hs fun _ _ h => ci_pG h fun _ _ h => ci_gd id fun _ => ci_go hl (nrS_c nrV_l h) hH rfl rfl
    | exact ci_pV hs fun _ _ hy h => ci_go hl (nrS_c hy (nrS_c hy h)) hH rfl rfl
    | exact ci_pV hs fun _ _ _ h => ci_go hl h hH rfl rfl
    | exact ci_pV hs fun _ _ hy h => ci_pV h fun _ _ hz h => ci_go hl (nrS_c hy (nrS_c hz (nrS_c hy (nrS_c hz h)))) hH rfl rfl
end CIS
theorem good_cv {m pc npc a b d w : Nat} {ins : Instr} {cv : Value} {sw : List (Int32 × Nat)} (h : (ins, npc, a, b, d, w, cv, sw) = (ins, npc, a, b, d, w, cv, sw)) (hg : good m (pc, ins, npc, a, b, d, w, cv, sw) = true) : (∀ k, ins = .getstatic k → a ≠ 1003) := by
  rintro k rfl
  simp only [good, Bool.and_eq_true, decide_eq_true_eq] at hg
  omega
/-- no constant of the code is a reference -/
def cvOk (e : En) : Bool := match e.2.2.2.2.2.2.2.1 with
  | .ref _ => false
  | _ => true
theorem cv_all : ∀ m, (mC m).all cvOk = true := fun m => match m with
  | 0 => by decide +kernel
  | 1 => by decide +kernel
  | 2 => by decide +kernel
  | 3 => by decide +kernel
  | 4 => by decide +kernel
  | 5 => by decide +kernel
  | 6 => by decide +kernel
  | 7 => by decide +kernel
  | 8 => by decide +kernel
  | 9 => by decide +kernel
  | 10 => by decide +kernel
  | 11 => by decide +kernel
  | 12 => by decide +kernel
  | 13 => by decide +kernel
  | 14 => by decide +kernel
  | 15 => by decide +kernel
  | 16 => by decide +kernel
  | 17 => by decide +kernel
  | 18 => by decide +kernel
  | 19 => by decide +kernel
  | 20 => by decide +kernel
  | 21 => by decide +kernel
  | 22 => by decide +kernel
  | 23 => by decide +kernel
  | 24 => by decide +kernel
  | 25 => by decide +kernel
  | 26 => by decide +kernel
  | 27 => by decide +kernel
  | 28 => by decide +kernel
  | 29 => by decide +kernel
  | 30 => by decide +kernel
  | 31 => by decide +kernel
  | 32 => by decide +kernel
  | 33 => by decide +kernel
  | 34 => by decide +kernel
  | 35 => by decide +kernel
  | 36 => by decide +kernel
  | 37 => by decide +kernel
  | 38 => by decide +kernel
  | 39 => by decide +kernel
  | 40 => by decide +kernel
  | 41 => by decide +kernel
  | 42 => by decide +kernel
  | 43 => by decide +kernel
  | 44 => by decide +kernel
  | 45 => by decide +kernel
  | 46 => by decide +kernel
  | 47 => by decide +kernel
  | 48 => by decide +kernel
  | 49 => by decide +kernel
  | 50 => by decide +kernel
  | 51 => by decide +kernel
  | 52 => by decide +kernel
  | 53 => by decide +kernel
  | 54 => by decide +kernel
  | 55 => by decide +kernel
  | 56 => by decide +kernel
  | 57 => by decide +kernel
  | 58 => by decide +kernel
  | 59 => by decide +kernel
  | 60 => by decide +kernel
  | 61 => by decide +kernel
  | 62 => by decide +kernel
  | 63 => by decide +kernel
  | 64 => by decide +kernel
  | 65 => by decide +kernel
  | 66 => by decide +kernel
  | 67 => by decide +kernel
  | 68 => by decide +kernel
  | 69 => by decide +kernel
  | 70 => by decide +kernel
  | 71 => by decide +kernel
  | 72 => by decide +kernel
  | 73 => by decide +kernel
  | 74 => by decide +kernel
  | 75 => by decide +kernel
  | 76 => by decide +kernel
  | 77 => by decide +kernel
  | 78 => by decide +kernel
  | 79 => by decide +kernel
  | 80 => by decide +kernel
  | 81 => by decide +kernel
  | 82 => by decide +kernel
  | 83 => by decide +kernel
  | 84 => by decide +kernel
  | 85 => by decide +kernel
  | 86 => by decide +kernel
  | 87 => by decide +kernel
  | 88 => by decide +kernel
  | 89 => by decide +kernel
  | 90 => by decide +kernel
  | 91 => by decide +kernel
  | 92 => by decide +kernel
  | 93 => by decide +kernel
  | 94 => by decide +kernel
  | 95 => by decide +kernel
  | 96 => by decide +kernel
  | 97 => by decide +kernel
  | 98 => by decide +kernel
  | 99 => by decide +kernel
  | 100 => by decide +kernel
  | 101 => by decide +kernel
  | 102 => by decide +kernel
  | 103 => by decide +kernel
  | _ + 104 => rfl
theorem fe_cv {m pc npc a b d w : Nat} {ins : Instr} {cv : Value} {sw : List (Int32 × Nat)} (h : fe (mC m) pc = some (ins, npc, a, b, d, w, cv, sw)) : nrV cv := fun e => by
  have h1 := List.all_eq_true.mp (cv_all m) _ (fe_mem h)
  subst e
  cases h1
theorem ch_exec (L : Nat) (xs : Nat → Int32) : ∀ {f m pc : Nat} {ls : Lcl} {st : List Value} {σ : Sg} {M : Mem} {r : Option Value} {σ1 : Sg} {M1 : Mem}, exec f m pc ls st σ M = some (r, σ1, M1) → nrL ls → nrS st → nrH σ → exec f m pc ls st (chS L σ) (chM xs M) = some (r, chS L σ1, chM xs M1) ∧ nrH σ1
  | 0, _, _, _, _, _, _, _, _, _, h, _, _, _ => by simp [exec] at h
  | f + 1, m, pc, ls, st, σ, M, r, σ1, M1, h, hl, hs, hH => by
    rw [exec] at h ⊢
    cases he : fe (mC m) pc with
    | none => rw [he] at h; cases h
    | some q =>
      obtain ⟨ins, npc, a, b, d, w, cv, sw⟩ := q
      rw [he] at h
      dsimp only at h ⊢
      have key := ci_stA (L := L) (xs := xs) (npc := npc) (b := b) (d := d) (sw := sw) (M := M) (good_cv rfl (fe_good he)) (fe_cv he) hl hs hH
      cases hx : stA ins npc a b d cv sw ls st σ M with
      | none => rw [hx] at h; cases h
      | some z =>
        obtain ⟨k1, k2⟩ := key z hx
        rw [hx] at h
        rw [k1]
        match z, h, k2 with
        | .inl (pc1, ls1, st1, σ2, M2), h, k2 => exact ch_exec L xs h k2.1 k2.2.1 k2.2.2
        | .inr (.inl (j, ls1, rest)), h, k2 =>
          dsimp only [chX] at h ⊢
          cases hc : exec f j 0 ls1 [] σ M with
          | none => rw [hc] at h; cases h
          | some q2 =>
            obtain ⟨r2, σ2, M2⟩ := q2
            rw [hc] at h
            obtain ⟨i1, i2⟩ := ch_exec L xs hc k2.1 (fun _ q => absurd q List.not_mem_nil) hH
            rw [i1]
            refine ch_exec L xs h hl ?_ i2
            rcases exec_ret hc with ⟨rfl, -⟩ | ⟨v, rfl, -⟩ | ⟨v, rfl, -⟩
            · exact k2.2
            · exact nrS_c nrV_i k2.2
            · exact nrS_c nrV_l k2.2
        | .inr (.inr v), h, _ =>
          cases h
          exact ⟨rfl, hH⟩
