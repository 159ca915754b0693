abbrev Lcl := List (Option Value)
abbrev Mem := Nat → Nat → Int32
abbrev Rfs := Nat → Nat → Option Nat
abbrev Sg := Nat × Nat × (Nat → Nat) × (Nat → Nat) × Rfs
def sN (σ : Sg) : Nat := σ.1
def sS (σ : Sg) : Nat := σ.2.1
def sT (σ : Sg) : Nat → Nat := σ.2.2.1
def sL (σ : Sg) : Nat → Nat := σ.2.2.2.1
def sR (σ : Sg) : Rfs := σ.2.2.2.2
def upM {α : Type} (M : Nat → α) (o : Nat) (f : α) : Nat → α := fun b => if b = o then f else M b
def upI (f : Nat → Int32) (k : Nat) (x : Int32) : Nat → Int32 := fun j => if j = k then x else f j
def setR (σ : Sg) (o : Nat) (f : Nat → Option Nat) : Sg := (sN σ, sS σ, sT σ, sL σ, upM (sR σ) o f)
def alloc (σ : Sg) (t len sl : Nat) : Sg := (sN σ + 1, sS σ + sl, upM (sT σ) (sN σ) t, upM (sL σ) (sN σ) len, upM (sR σ) (sN σ) (fun _ => none))
abbrev Nx := Nat × Lcl × List Value × Sg × Mem
abbrev Rs := Nx ⊕ ((Nat × Lcl × List Value) ⊕ Option Value)
def go (pc : Nat) (ls : Lcl) (st : List Value) (σ : Sg) (M : Mem) : Option Rs := some (.inl (pc, ls, st, σ, M))
def pI (st : List Value) (K : Int32 → List Value → Option Rs) : Option Rs := match st with
  | .int x :: r => K x r
  | _ => none
def pR (st : List Value) (K : Nat → List Value → Option Rs) : Option Rs := match st with
  | .ref x :: r => K x r
  | _ => none
def pG (st : List Value) (K : Int64 → List Value → Option Rs) : Option Rs := match st with
  | .long x :: r => K x r
  | _ => none
def pF (st : List Value) (K : UInt32 → List Value → Option Rs) : Option Rs := match st with
  | .float x :: r => K x r
  | _ => none
def pV (st : List Value) (K : Value → List Value → Option Rs) : Option Rs := match st with
  | .int x :: r => K (.int x) r
  | .ref x :: r => K (.ref x) r
  | .null :: r => K .null r
  | .float x :: r => K (.float x) r
  | _ => none
def lget (ls : Lcl) (k : Nat) : Option Value := match ls, k with
  | [], _ => none
  | x :: _, 0 => x
  | _ :: r, k + 1 => lget r k
def lset (ls : Lcl) (k : Nat) (v : Option Value) : Lcl := match ls, k with
  | [], _ => []
  | _ :: r, 0 => v :: r
  | x :: r, k + 1 => x :: lset r k v
def isLong (v : Option Value) : Bool := match v with
  | some (.long _) => true
  | some (.double _) => true
  | _ => false
/-- no wide value stands just ahead of place k -/
def narrowAt (ls : Lcl) (k : Nat) : Bool := match k with
  | 0 => true
  | k + 1 => !isLong (lget ls k)
def ldI (v : Option Value) (K : Int32 → Option Rs) : Option Rs := match v with
  | some (.int x) => K x
  | _ => none
def ldG (v : Option Value) (K : Int64 → Option Rs) : Option Rs := match v with
  | some (.long x) => K x
  | _ => none
def ldF (v : Option Value) (K : UInt32 → Option Rs) : Option Rs := match v with
  | some (.float x) => K x
  | _ => none
def ldA (v : Option Value) (K : Value → Option Rs) : Option Rs := match v with
  | some (.ref x) => K (.ref x)
  | some .null => K .null
  | _ => none
def gd (c : Prop) [Decidable c] (K : Option Rs) : Option Rs := if c then K else none
def st1 (ls : Lcl) (k : Nat) (v : Value) (K : Lcl → Option Rs) : Option Rs :=
  gd (k < ls.length ∧ narrowAt ls k = true) (K (lset ls k (some v)))
def st2 (ls : Lcl) (k : Nat) (v : Value) (K : Lcl → Option Rs) : Option Rs :=
  gd (k + 1 < ls.length ∧ narrowAt ls k = true) (K (lset (lset ls (k + 1) none) k (some v)))
def isI (t : Nat) : Bool := t == 0 || t == 9
def isAr (t : Nat) : Bool := t == 0 || t == 9 || t == 1 || t == 2
def ixI (i : Int32) (n : Nat) (K : Nat → Option Rs) : Option Rs := if i < 0 ∨ n ≤ i.toNatClampNeg then none else K i.toNatClampNeg
def okB (x : Int32) : Bool := x == 0 || x == 1
def okC (x : Int32) : Bool := (x.toUInt32 % 65536).toInt32 == x
def okR (cv : Value) (x : Int32) : Bool := match cv with
  | .int t => if t = 0 then true else if t = 1 then okB x else okC x
  | _ => false
def getF (cv : Value) (R : Option Nat) (x : Int32) : Value := match cv with
  | .null => va_rf R
  | _ => .int x
def popA : Nat → List Value → List Value → Option (List Value × List Value)
  | 0, st, acc => some (acc, st)
  | n + 1, v :: st, acc => popA n st (v :: acc)
  | _ + 1, [], _ => none
def le4 (st : List Value) : Bool := match st with
  | [] => true
  | [_] => true
  | [_, _] => true
  | [_, _, _] => true
  | [_, _, _, _] => true
  | _ => false
def noL (st : List Value) : Bool := match st with
  | [] => true
  | .int _ :: r => noL r
  | .ref _ :: r => noL r
  | .null :: r => noL r
  | .float _ :: r => noL r
  | _ => false
def iniL (args : List Value) (b : Nat) : Lcl := args.map some ++ List.replicate b none
def doCall (σ : Sg) (a b d : Nat) (r : Option (List Value × List Value)) : Option Rs := match r with
  | some (args, rest) => if (le4 rest && noL args) = true then (if d = 0 then some (.inr (.inl (a, iniL args b, rest))) else match args with
      | .ref o :: _ => if sT σ o = d then some (.inr (.inl (a, iniL args b, rest))) else none
      | _ => none) else none
  | none => none
def swT : List (Int32 × Nat) → Nat → Int32 → Nat
  | [], d, _ => d
  | (v, t) :: r, d, x => if x = v then t else swT r d x
def cmp32 (c : ClassFile.Cond) (x y : Int32) : Prop := match c with
  | .eq => x = y
  | .ne => ¬ x = y
  | .lt => x < y
  | .ge => ¬ x < y
  | .gt => y < x
  | .le => ¬ y < x
def jmp (c : Prop) [Decidable c] (t e : Nat) : Nat := if c then t else e
def br32 (c : ClassFile.Cond) (x y : Int32) (t e : Nat) : Nat := match c with
  | .eq => jmp (x = y) t e
  | .ne => jmp (x = y) e t
  | .lt => jmp (x < y) t e
  | .ge => jmp (x < y) e t
  | .gt => jmp (y < x) t e
  | .le => jmp (y < x) e t
def putI (cv : Value) (x : Int32) : Bool := match cv with
  | .int t => if t = 0 then true else okB x
  | _ => false
def putF (cv : Value) (k : Nat) (st : List Value) (npc : Nat) (ls : Lcl) (tag : Nat) (σ : Sg) (M : Mem) : Option Rs := match cv with
  | .null => pR st fun v st => pR st fun o st => gd (sT σ o = tag ∧ ¬ sT σ v = 9) (go npc ls st (setR σ o (upM (sR σ o) k (some v))) M)
  | _ => pI st fun x st => pR st fun o st => gd (sT σ o = tag ∧ putI cv x = true) (go npc ls st σ (upM M o (upI (M o) k x)))
def spec (a : Nat) (npc : Nat) (ls : Lcl) (st : List Value) (σ : Sg) (M : Mem) : Option Rs :=
  if a = 900 then pR st fun _ st => gd (le4 st = true) (go npc ls st σ M)
  else if a = 901 then pI st fun y st => pI st fun x st => gd (le4 st = true) (go npc ls (.int (if x < y then y else x) :: st) σ M)
  else if a = 902 then pI st fun y st => pI st fun x st => gd (le4 st = true) (go npc ls (.int (if y < x then y else x) :: st) σ M)
  else pF st fun x st => gd (le4 st = true) (go npc ls (.int x.toInt32 :: st) σ M)
def nn32 (r : UInt32) : Bool := decide (r &&& 0x7fffffff ≤ 0x7f800000)
def stA (ins : Instr) (npc a b d : Nat) (cv : Value) (sw : List (Int32 × Nat)) (ls : Lcl) (st : List Value) (σ : Sg) (M : Mem) : Option Rs := match ins with
  | .iconst _ => go npc ls (cv :: st) σ M
  | .bipush _ => go npc ls (cv :: st) σ M
  | .sipush _ => go npc ls (cv :: st) σ M
  | .ldc _ => go npc ls (cv :: st) σ M
  | .ldc2_w _ => go npc ls (cv :: st) σ M
  | .fconst _ => go npc ls (cv :: st) σ M
  | .iload k => ldI (lget ls k) fun x => go npc ls (.int x :: st) σ M
  | .iload_n k => ldI (lget ls k.val) fun x => go npc ls (.int x :: st) σ M
  | .aload_n k => ldA (lget ls k.val) fun x => go npc ls (x :: st) σ M
  | .lload_n k => ldG (lget ls k.val) fun x => go npc ls (.long x :: st) σ M
  | .lload k => ldG (lget ls k) fun x => go npc ls (.long x :: st) σ M
  | .fload_n k => ldF (lget ls k.val) fun x => go npc ls (.float x :: st) σ M
  | .istore k => pI st fun x st => st1 ls k (.int x) fun ls => go npc ls st σ M
  | .istore_n k => pI st fun x st => st1 ls k.val (.int x) fun ls => go npc ls st σ M
  | .astore_n k => pR st fun x st => st1 ls k.val (.ref x) fun ls => go npc ls st σ M
  | .fstore_n k => pF st fun x st => st1 ls k.val (.float x) fun ls => go npc ls st σ M
  | .lstore_n k => pG st fun x st => st2 ls k.val (.long x) fun ls => go npc ls st σ M
  | .lstore k => pG st fun x st => st2 ls k (.long x) fun ls => go npc ls st σ M
  | .iinc k n => ldI (lget ls k) fun x => st1 ls k (.int (x + Int32.ofInt n)) fun ls => go npc ls st σ M
  | .iadd => pI st fun y st => pI st fun x st => go npc ls (.int (x + y) :: st) σ M
  | .isub => pI st fun y st => pI st fun x st => go npc ls (.int (x - y) :: st) σ M
  | .imul => pI st fun y st => pI st fun x st => go npc ls (.int (x * y) :: st) σ M
  | .iand => pI st fun y st => pI st fun x st => go npc ls (.int (x &&& y) :: st) σ M
  | .ior => pI st fun y st => pI st fun x st => go npc ls (.int (x ||| y) :: st) σ M
  | .ishl => pI st fun y st => pI st fun x st => go npc ls (.int (x <<< (y &&& 31)) :: st) σ M
  | .ishr => pI st fun y st => pI st fun x st => go npc ls (.int (x >>> (y &&& 31)) :: st) σ M
  | .idiv => pI st fun y st => pI st fun x st => gd (¬ y = 0) (go npc ls (.int (x / y) :: st) σ M)
  | .irem => pI st fun y st => pI st fun x st => gd (¬ y = 0) (go npc ls (.int (x - x / y * y) :: st) σ M)
  | .lmul => pG st fun y st => pG st fun x st => go npc ls (.long (x * y) :: st) σ M
  | .ladd => pG st fun y st => pG st fun x st => go npc ls (.long (x + y) :: st) σ M
  | .lcmp => pG st fun y st => pG st fun x st => go npc ls (.int (lg_cmp x y) :: st) σ M
  | .lrem => pG st fun y st => pG st fun x st => gd (¬ y = 0) (go npc ls (.long (x - x / y * y) :: st) σ M)
  | .i2l => pI st fun x st => go npc ls (.long x.toInt64 :: st) σ M
  | .l2i => pG st fun x st => go npc ls (.int x.toInt32 :: st) σ M
  | .i2c => pI st fun x st => go npc ls (.int (x.toUInt32 % 65536).toInt32 :: st) σ M
  | .i2f => pI st fun x st => go npc ls (.float (FP.i2f x) :: st) σ M
  | .f2i => pF st fun x st => go npc ls (.int (FP.f2i x) :: st) σ M
  | .fmul => pF st fun y st => pF st fun x st => gd (nn32 (FP.fmul x y) = true) (go npc ls (.float (FP.fmul x y) :: st) σ M)
  | .fdiv => pF st fun y st => pF st fun x st => gd (nn32 (FP.fdiv x y) = true) (go npc ls (.float (FP.fdiv x y) :: st) σ M)
  | .fsub => pF st fun y st => pF st fun x st => gd (nn32 (FP.fsub x y) = true) (go npc ls (.float (FP.fsub x y) :: st) σ M)
  | .fcmp op => pF st fun y st => pF st fun x st => go npc ls (.int (Op.cmpValue (FP.fcmp x y) op) :: st) σ M
  | .dup => pV st fun v st => go npc ls (v :: v :: st) σ M
  | .dup2 => pV st fun v st => pV st fun u st => go npc ls (v :: u :: v :: u :: st) σ M
  | .pop => pV st fun _ st => go npc ls st σ M
  | .goto _ => go a ls st σ M
  | .if_icmp c _ => pI st fun y st => pI st fun x st => go (br32 c x y a npc) ls st σ M
  | .ifCond c _ => pI st fun x st => go (br32 c x 0 a npc) ls st σ M
  | .ifnull _ => pR st fun _ st => go npc ls st σ M
  | .ifnonnull _ => pR st fun _ st => go a ls st σ M
  | .tableswitch _ _ _ _ => pI st fun x st => go (swT sw a x) ls st σ M
  | .lookupswitch _ _ => pI st fun x st => go (swT sw a x) ls st σ M
  | .getfield _ => pR st fun o st => gd (sT σ o = a) (go npc ls (getF cv (sR σ o b) (M o b) :: st) σ M)
  | .putfield _ => putF cv b st npc ls a σ M
  | .getstatic _ => go npc ls (.ref a :: st) σ M
  | .arraylength => pR st fun o st => gd (isAr (sT σ o) = true) (go npc ls (.int (nI (sL σ o)) :: st) σ M)
  | .iaload => pI st fun i st => pR st fun o st => gd (isI (sT σ o) = true) (ixI i (sL σ o) fun k => go npc ls (.int (M o k) :: st) σ M)
  | .caload => pI st fun i st => pR st fun o st => gd (sT σ o = 1) (ixI i (sL σ o) fun k => go npc ls (.int (M o k) :: st) σ M)
  | .aaload => pI st fun i st => pR st fun o st => gd (sT σ o = 2) (ixI i (sL σ o) fun k => go npc ls (va_rf (sR σ o k) :: st) σ M)
  | .iastore => pI st fun x st => pI st fun i st => pR st fun o st => gd (sT σ o = 0) (ixI i (sL σ o) fun k => go npc ls st σ (upM M o (upI (M o) k x)))
  | .castore => pI st fun x st => pI st fun i st => pR st fun o st => gd (sT σ o = 1) (ixI i (sL σ o) fun k => go npc ls st σ (upM M o (upI (M o) k (vp_nar .char x))))
  | .aastore => pR st fun v st => pI st fun i st => pR st fun o st => gd (sT σ o = 2 ∧ sT σ v = 11) (ixI i (sL σ o) fun k => go npc ls st (setR σ o (upM (sR σ o) k (some v))) M)
  | .new _ => gd (¬ sT σ (sN σ) = 9) (go npc ls (.ref (sN σ) :: st) (alloc σ a 0 b) (upM M (sN σ) (fun _ => 0)))
  | .newarray t => pI st fun n st => gd (¬ sT σ (sN σ) = 9) (ixI n 100000 fun k => go npc ls (.ref (sN σ) :: st) (alloc σ (if t = .char then 1 else 0) k k) (upM M (sN σ) (fun _ => 0)))
  | .anewarray _ => pI st fun n st => gd (¬ sT σ (sN σ) = 9) (ixI n 100000 fun k => go npc ls (.ref (sN σ) :: st) (alloc σ 2 k k) (upM M (sN σ) (fun _ => 0)))
  | .invokevirtual _ => doCall σ a b d (popA (nOf cv) st [])
  | .invokestatic _ => if a < 900 then doCall σ a b d (popA (nOf cv) st []) else spec a npc ls st σ M
  | .invokespecial _ => if a < 900 then doCall σ a b d (popA (nOf cv) st []) else spec a npc ls st σ M
  | .ireturn => match st with
      | [.int x] => gd (okR cv x = true) (some (.inr (.inr (some (.int x)))))
      | _ => none
  | .lreturn => match st with
      | [.long x] => some (.inr (.inr (some (.long x))))
      | _ => none
  | .return_ => match st with
      | [] => some (.inr (.inr none))
      | _ => none
  | _ => none
def pushR (r : Option Value) (st : List Value) : List Value := match r with
  | some v => v :: st
  | none => st
def exec : Nat → Nat → Nat → Lcl → List Value → Sg → Mem → Option (Option Value × Sg × Mem)
  | 0, _, _, _, _, _, _ => none
  | f + 1, m, pc, ls, st, σ, M => match fe (mC m) pc with
    | none => none
    | some (ins, npc, a, b, d, _, cv, sw) => match stA ins npc a b d cv sw ls st σ M with
      | none => none
      | some (.inl (pc1, ls1, st1, σ1, M1)) => exec f m pc1 ls1 st1 σ1 M1
      | some (.inr (.inl (j, ls1, rest))) => match exec f j 0 ls1 [] σ M with
        | none => none
        | some (r, σ1, M1) => exec f m npc ls (pushR r rest) σ1 M1
      | some (.inr (.inr v)) => some (v, σ, M)
theorem exec_succ {f m pc : Nat} {ls : Lcl} {st : List Value} {σ : Sg} {M : Mem} {x : Option Value × Sg × Mem} (h : exec f m pc ls st σ M = some x) : exec (f + 1) m pc ls st σ M = some x := by
  induction f generalizing m pc ls st σ M x with
  | zero => simp [exec] at h
  | succ f ih =>
    rw [exec] at h ⊢
    split at h
    · exact absurd h (by simp)
    · rename_i ins npc a b d w cv sw he
      split at h
      · exact absurd h (by simp)
      · rename_i pc1 ls1 st1 σ1 M1 hs
        exact ih h
      · rename_i j ls1 rest hs
        split at h
        · exact absurd h (by simp)
        · rename_i r σ1 M1 hc
          rw [ih hc]
          exact ih h
      · rename_i v hs
        exact h
theorem exec_add {f m pc : Nat} {ls : Lcl} {st : List Value} {σ : Sg} {M : Mem} {x : Option Value × Sg × Mem} (h : exec f m pc ls st σ M = some x) (k : Nat) : exec (f + k) m pc ls st σ M = some x := by
  induction k with
  | zero => exact h
  | succ k ih => exact exec_succ ih
theorem exec_le {f g m pc : Nat} {ls : Lcl} {st : List Value} {σ : Sg} {M : Mem} {x : Option Value × Sg × Mem} (h : exec f m pc ls st σ M = some x) (hg : f ≤ g) : exec g m pc ls st σ M = some x := by
  have e := exec_add h (g - f)
  rw [show f + (g - f) = g by omega] at e
  exact e
theorem exec_det {f g m pc : Nat} {ls : Lcl} {st : List Value} {σ : Sg} {M : Mem} {x y : Option Value × Sg × Mem} (h : exec f m pc ls st σ M = some x) (h2 : exec g m pc ls st σ M = some y) : x = y := by
  have a := exec_le h (Nat.le_max_left f g)
  have b := exec_le h2 (Nat.le_max_right f g)
  exact Option.some.inj (a.symm.trans b)
abbrev Po := Option Value → Sg → Mem → Prop
def wp (m pc : Nat) (ls : Lcl) (st : List Value) (σ : Sg) (M : Mem) (Q : Po) : Prop := ∃ (f : Nat) (r : Option Value) (σ1 : Sg) (M1 : Mem), exec f m pc ls st σ M = some (r, σ1, M1) ∧ Q r σ1 M1
def wpR (x : Option Rs) (m npc : Nat) (ls : Lcl) (σ : Sg) (M : Mem) (Q : Po) : Prop := match x with
  | none => False
  | some (.inl (pc1, ls1, st1, σ1, M1)) => wp m pc1 ls1 st1 σ1 M1 Q
  | some (.inr (.inl (j, ls1, rest))) => wp j 0 ls1 [] σ M (fun r σ1 M1 => wp m npc ls (pushR r rest) σ1 M1 Q)
  | some (.inr (.inr v)) => Q v σ M
theorem wp_eq {m pc npc a b d w : Nat} {ins : Instr} {cv : Value} {sw : List (Int32 × Nat)} {l : List En} (hm : mC m = l) (he : fe l pc = some (ins, npc, a, b, d, w, cv, sw)) (ls : Lcl) (st : List Value) (σ : Sg) (M : Mem) (Q : Po) :
    wp m pc ls st σ M Q = wpR (stA ins npc a b d cv sw ls st σ M) m npc ls σ M Q := by
  subst hm
  apply propext
  constructor
  · rintro ⟨f, r, σ1, M1, h, hQ⟩
    cases f with
    | zero => simp [exec] at h
    | succ f =>
      rw [exec, he] at h
      dsimp only at h
      split at h
      · exact absurd h (by simp)
      · rename_i hs
        rw [hs]
        exact ⟨f, r, σ1, M1, h, hQ⟩
      · rename_i hs
        rw [hs]
        split at h
        · exact absurd h (by simp)
        · rename_i r2 σ2 M2 hc
          exact ⟨f, r2, σ2, M2, hc, f, r, σ1, M1, h, hQ⟩
      · rename_i hs
        rw [hs]
        cases h
        exact hQ
  · intro h
    cases hs : stA ins npc a b d cv sw ls st σ M with
    | none => rw [hs] at h; exact h.elim
    | some x =>
      rw [hs] at h
      match x, h, hs with
      | .inl (pc1, ls1, st1, σ1, M1), ⟨f, r, σ2, M2, h1, h2⟩, hs =>
        refine ⟨f + 1, r, σ2, M2, ?_, h2⟩
        rw [exec, he]
        dsimp only
        rw [hs]
        exact h1
      | .inr (.inl (j, ls1, rest)), ⟨f, r, σ2, M2, h1, g, r3, σ3, M3, h3, h4⟩, hs =>
        refine ⟨max f g + 1, r3, σ3, M3, ?_, h4⟩
        rw [exec, he]
        dsimp only
        rw [hs]
        dsimp only
        rw [exec_le h1 (Nat.le_max_left f g)]
        exact exec_le h3 (Nat.le_max_right f g)
      | .inr (.inr v), h, hs =>
        refine ⟨1, v, σ, M, ?_, h⟩
        rw [exec, he]
        dsimp only
        rw [hs]
theorem wp_mono {m pc : Nat} {ls : Lcl} {st : List Value} {σ : Sg} {M : Mem} {Q Q2 : Po} (h : wp m pc ls st σ M Q) (hQ : ∀ r σ1 M1, Q r σ1 M1 → Q2 r σ1 M1) : wp m pc ls st σ M Q2 := by
  obtain ⟨f, r, σ1, M1, h1, h2⟩ := h
  exact ⟨f, r, σ1, M1, h1, hQ _ _ _ h2⟩
/-- a run with a known end, as an equation -/
theorem wp_spec {m pc : Nat} {ls : Lcl} {st : List Value} {σ σ1 : Sg} {M M1 : Mem} {r : Option Value} (h : wp m pc ls st σ M (fun r' σ' M' => r' = r ∧ σ' = σ1 ∧ M' = M1)) (Q : Po) : wp m pc ls st σ M Q = Q r σ1 M1 := by
  obtain ⟨f, r', σ', M', h1, rfl, rfl, rfl⟩ := h
  apply propext
  constructor
  · rintro ⟨g, r2, σ2, M2, h2, h3⟩
    have e := exec_det h1 h2
    cases e
    exact h3
  · intro hQ
    exact ⟨f, _, _, _, h1, hQ⟩
/-- a run whose end is known in words alone -/
theorem wp_ex {m pc : Nat} {ls : Lcl} {st : List Value} {σ : Sg} {M : Mem} {P : Po} (h : wp m pc ls st σ M P) : ∃ (r : Option Value) (σ1 : Sg) (M1 : Mem), P r σ1 M1 ∧ ∀ Q : Po, wp m pc ls st σ M Q = Q r σ1 M1 := by
  obtain ⟨f, r, σ1, M1, h1, h2⟩ := h
  exact ⟨r, σ1, M1, h2, fun Q => wp_spec ⟨f, r, σ1, M1, h1, rfl, rfl, rfl⟩ Q⟩
