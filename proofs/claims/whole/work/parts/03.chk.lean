def nOf (cv : Value) : Nat := match cv with
  | .retAddr n => n
  | _ => 0
def fe (l : List En) (pc : Nat) : Option (Instr × Nat × Nat × Nat × Nat × Nat × Value × List (Int32 × Nat)) := match l with
  | [] => none
  | e :: r => if e.1 = pc then some e.2 else fe r pc
def cN (c : Nat) : String := match vwCl[c]? with
  | some q => q.1
  | none => ""
def cT (c : Nat) : u_T := match vwCl[c]? with
  | some q => q.2.1
  | none => fun _ => ("", "", "", false)
def cF (c : Nat) : Nat := match vwCl[c]? with
  | some q => q.2.2
  | none => 0
def cY (c : Nat) : Nat → FieldType := match c with
  | 0 => tyX0
  | 1 => tyX1
  | 2 => tyX2
  | 3 => tyX3
  | 4 => tyX4
  | 5 => tyX5
  | 6 => tyX6
  | _ => tyX7
/-- the marker of a field's type: null a reference, 0 an int, 1 a boolean -/
def tcv (t : FieldType) : Value := match t with
  | .int => .int (nI 0)
  | .boolean => .int (nI 1)
  | _ => .null
def mO (m : Nat) : String := (mY m).cls
def nP (j : Nat) : Option Nat := (parseMethodDescriptor (mY j).desc).map (fun d => d.parameters.length)
def offOk (pc : Nat) (off : Int) (t : Nat) : Bool := decide ((pc : Int) + off = (t : Int))
/-- a table of a switch over consecutive numbers -/
def tswOk (pc : Nat) (lo hi : Int) (offs : Array Int) (sw : List (Int32 × Nat)) : Bool :=
  decide (sw.length = offs.size) && decide (hi = lo + offs.size - 1) && decide (-1000 < lo) && decide (hi < 1000) && (List.range offs.size).all (fun i => decide ((sw[i]?).map (fun q => q.1.toInt) = some (lo + i)) && decide ((sw[i]?).map (fun q => (q.2 : Int)) = (offs[i]?).map (fun o => (pc : Int) + o)))
def lswOk (pc : Nat) (ps : List (Int × Int)) (sw : List (Int32 × Nat)) : Bool := match ps, sw with
  | [], [] => true
  | p :: ps, q :: sw => decide (q.1.toInt = p.1) && decide ((q.2 : Int) = (pc : Int) + p.2) && lswOk pc ps sw
  | _, _ => false
def argN (cv : Value) (k b l : Nat) : Bool := match cv with
  | .retAddr n => decide (k ≤ n ∧ n + b = l)
  | _ => false
def good (m : Nat) (e : En) : Bool := match e with
  | (pc, ins, npc, a, b, d, _, cv, sw) => decide (decode (mB m) pc = .ok (ins, npc - pc)) && match ins with
    | .iconst n => decide (npc = pc + 1) && decide (cv = .int (Int32.ofInt n))
    | .bipush n => decide (npc = pc + 2) && decide (cv = .int (Int8.ofInt n).toInt32)
    | .sipush n => decide (npc = pc + 3) && decide (cv = .int (Int16.ofInt n).toInt32)
    | .ldc _ => decide (npc = pc + 2)
    | .ldc2_w _ => decide (npc = pc + 3)
    | .fconst n => decide (npc = pc + 1) && decide (cv = .float (if n = 0 then FP.fconst0 else if n = 1 then FP.fconst1 else FP.fconst2))
    | .iload _ => decide (npc = pc + 2)
    | .istore _ => decide (npc = pc + 2)
    | .iinc _ _ => decide (npc = pc + 3)
    | .goto o => decide (npc = pc + 3) && offOk pc o a
    | .if_icmp _ o => decide (npc = pc + 3) && offOk pc o a
    | .ifCond _ o => decide (npc = pc + 3) && offOk pc o a
    | .ifnull o => decide (npc = pc + 3) && offOk pc o a
    | .ifnonnull o => decide (npc = pc + 3) && offOk pc o a
    | .tableswitch df lo hi offs => offOk pc df a && tswOk pc lo hi offs sw
    | .lookupswitch df ps => offOk pc df a && lswOk pc ps.toList sw && (ps.toList.zip (ps.toList.drop 1)).all (fun (x, next) => x.1 < next.1)
    | .getfield _ => decide (npc = pc + 3) && decide (10 ≤ a ∧ a - 10 < 8 ∧ b < cF (a - 10)) && decide (cv = tcv (cY (a - 10) b))
    | .putfield _ => decide (npc = pc + 3) && decide (10 ≤ a ∧ a - 10 < 8 ∧ b < cF (a - 10)) && decide (cv = tcv (cY (a - 10) b))
    | .getstatic _ => decide (npc = pc + 3) && decide (1000 ≤ a ∧ a ≤ 1002)
    | .new _ => decide (npc = pc + 3) && decide (10 ≤ a ∧ a - 10 < 8 ∧ b = cF (a - 10))
    | .newarray t => decide (npc = pc + 2) && decide (t = .int ∨ t = .char)
    | .anewarray _ => decide (npc = pc + 3)
    | .invokevirtual _ => decide (npc = pc + 3) && decide (a < 900) && decide (10 ≤ d ∧ d - 10 < 8) && decide (mK a < mK m) && argN cv 1 b (mL a)
    | .invokestatic _ => decide (npc = pc + 3) && (if d = 0 then decide (a < 900) && decide (mK a < mK m) && argN cv 0 b (mL a) else decide (1 ≤ mK m) && decide (a = 900 + d ∧ d ≤ 3))
    | .invokespecial _ => decide (npc = pc + 3) && (if d = 0 then decide (1 ≤ mK m) && decide (a = 900) else decide (a < 900) && decide (10 ≤ d ∧ d - 10 < 8) && decide (mK a < mK m) && argN cv 1 b (mL a))
    | .ireturn => decide (npc = pc + 1) && decide ((cv = .int (nI 0) ∧ mR m = some .int) ∨ (cv = .int (nI 1) ∧ mR m = some .boolean) ∨ (cv = .int (nI 2) ∧ mR m = some .char))
    | .return_ => decide (npc = pc + 1) && decide (mR m = none)
    | _ => decide (npc = pc + 1)
def cOk (c : String) : Prop := c ≠ "java/lang/invoke/MethodHandle" ∧ c ≠ "java/lang/invoke/VarHandle"
/-- a method's own words -/
def GM (j : Nat) : Prop := Cond.code (mY j) (mB j) (mL j) (mR j) ∈ lw_tbl ∧ Cond.initialized (mY j).cls ∈ lw_tbl ∧ cOk (mY j).cls ∧ plainFor (mY j) = true ∧ (mL j ≤ 17 ∧ (mR j = none ∨ mR j = some .int ∨ mR j = some .boolean ∨ mR j = some .char))
def VM (j : Nat) (cv : Value) : Prop := Cond.instanceMethod (mY j) ∈ lw_tbl ∧ Cond.selects (mY j).cls (mY j) (mY j) ∈ lw_tbl ∧ nP j = some (nOf cv - 1)
def SM (j : Nat) (cv : Value) : Prop := Cond.static (mY j) ∈ lw_tbl ∧ nP j = some (nOf cv)
def IM (j : Nat) (cv : Value) : Prop := Cond.instanceMethod (mY j) ∈ lw_tbl ∧ (mY j).name = "<init>" ∧ mR j = none ∧ nP j = some (nOf cv - 1)
def FL (m i c k d : Nat) : Prop := match d with
  | 0 => Cond.fieldLink (mO m) i (cT c k).1 (cT c k).2.1 (cT c k).2.2.1 ∈ lw_tbl
  | _ => Cond.fieldLinkNest (mO m) i (cT c k).1 (cT c k).2.1 (cT c k).2.2.1 "AntTrails" ∈ lw_tbl
def FI (m c k d : Nat) : Prop := match (cT c k).2.2.2 with
  | true => (mY m).name = "<init>" ∧ (cT c k).1 = mO m ∧ d = 0
  | false => True
def LM (m i j : Nat) : Prop := Cond.methodLink (mO m) i (mY j) ∈ lw_tbl ∨ Cond.methodLinkNest (mO m) i (mY j) "AntTrails" ∈ lw_tbl
def stN (c : Nat) : String := match c with
  | 1000 => "AT_FIRST"
  | 1001 => "LEAST"
  | _ => "MOST"
def LkP (m : Nat) (e : En) : Prop := match e with
  | (_, ins, _, a, b, d, _, cv, _) => match ins with
    | .ldc i => (match cv with
      | .int v => Cond.constant (mO m) i v ∈ lw_tbl
      | .float v => Cond.constantFloat (mO m) i v ∈ lw_tbl
      | _ => False)
    | .ldc2_w i => (match cv with
      | .long v => Cond.constantLong (mO m) i v ∈ lw_tbl
      | _ => False)
    | .getfield i => FL m i (a - 10) b d
    | .putfield i => FL m i (a - 10) b d ∧ FI m (a - 10) b d
    | .getstatic i => (match d with
      | 0 => Cond.fieldLink (mO m) i "AntTrails" (stN a) "[I" ∈ lw_tbl
      | _ => Cond.fieldLinkNest (mO m) i "AntTrails" (stN a) "[I" "AntTrails" ∈ lw_tbl)
    | .new i => Cond.classLink (mO m) i (cN (a - 10)) ∈ lw_tbl
    | .anewarray i => Cond.classLink (mO m) i "AntTrails$Ground" ∈ lw_tbl
    | .invokevirtual i => (mY a).cls = cN (d - 10) ∧ Cond.methodLink (mO m) i (mY a) ∈ lw_tbl ∧ GM a ∧ VM a cv
    | .invokestatic i => (match d with
      | 0 => LM m i a ∧ GM a ∧ SM a cv
      | 1 => Cond.methodLink (mO m) i Lib.Math.max.name ∈ lw_tbl
      | 2 => Cond.methodLink (mO m) i Lib.Math.min.name ∈ lw_tbl
      | _ => Cond.methodLink (mO m) i ⟨"java/lang/Float", "floatToRawIntBits", "(F)I"⟩ ∈ lw_tbl)
    | .invokespecial i => (match d with
      | 0 => Cond.methodLink (mO m) i Lib.objectInit ∈ lw_tbl
      | _ => (mY a).cls = cN (d - 10) ∧ LM m i a ∧ GM a ∧ IM a cv)
    | _ => True
def allP (P : En → Prop) : List En → Prop
  | [] => True
  | e :: r => P e ∧ allP P r
theorem allP_app {P : En → Prop} : ∀ {l r : List En}, allP P l → allP P r → allP P (l ++ r)
  | [], _, _, h => h
  | _ :: _, _, h1, h2 => ⟨h1.1, allP_app h1.2 h2⟩
theorem allP_mem {P : En → Prop} : ∀ {l : List En}, allP P l → ∀ e ∈ l, P e
  | [], _, _, h => absurd h List.not_mem_nil
  | _ :: _, h1, _, h => (List.mem_cons.mp h).elim (fun q => q ▸ h1.1) (allP_mem h1.2 _)
theorem all_app {g : En → Bool} {l r : List En} (h1 : l.all g = true) (h2 : r.all g = true) : (l ++ r).all g = true := by rw [List.all_append, h1, h2]; rfl
theorem cok_0 : cOk "AntTrails" := ⟨by decide +kernel, by decide +kernel⟩
theorem pncok_0 : plainName "AntTrails" = true := by decide +kernel
theorem cok_1 : cOk "AntTrails$Colony" := ⟨by decide +kernel, by decide +kernel⟩
theorem pncok_1 : plainName "AntTrails$Colony" = true := by decide +kernel
theorem cok_2 : cOk "AntTrails$Ground" := ⟨by decide +kernel, by decide +kernel⟩
theorem pncok_2 : plainName "AntTrails$Ground" = true := by decide +kernel
theorem cok_3 : cOk "AntTrails$History" := ⟨by decide +kernel, by decide +kernel⟩
theorem pncok_3 : plainName "AntTrails$History" = true := by decide +kernel
theorem cok_4 : cOk "AntTrails$Orders" := ⟨by decide +kernel, by decide +kernel⟩
theorem pncok_4 : plainName "AntTrails$Orders" = true := by decide +kernel
theorem cok_5 : cOk "AntTrails$Survey" := ⟨by decide +kernel, by decide +kernel⟩
theorem pncok_5 : plainName "AntTrails$Survey" = true := by decide +kernel
theorem cok_6 : cOk "AntTrails$Way" := ⟨by decide +kernel, by decide +kernel⟩
theorem pncok_6 : plainName "AntTrails$Way" = true := by decide +kernel
theorem cok_7 : cOk "AntTrailsLaw" := ⟨by decide +kernel, by decide +kernel⟩
theorem pncok_7 : plainName "AntTrailsLaw" = true := by decide +kernel
theorem cok_8 : cOk "AntTrailsModel" := ⟨by decide +kernel, by decide +kernel⟩
theorem pncok_8 : plainName "AntTrailsModel" = true := by decide +kernel
theorem cok_9 : cOk "java/lang/Float" := ⟨by decide +kernel, by decide +kernel⟩
theorem gm_1 : GM 1 := ⟨wd_66, wd_52, cok_0, plainFor_of_name pncok_0, by decide +kernel⟩
theorem km_1 : IM 1 (.retAddr 1) := ⟨wd_65, rfl, rfl, by decide +kernel⟩
theorem gm_2 : GM 2 := ⟨wd_298, wd_52, cok_0, plainFor_of_name pncok_0, by decide +kernel⟩
theorem km_2 : VM 2 (.retAddr 1) := ⟨wd_296, wd_297, by decide +kernel⟩
theorem gm_3 : GM 3 := ⟨wd_330, wd_52, cok_0, plainFor_of_name pncok_0, by decide +kernel⟩
theorem km_3 : VM 3 (.retAddr 4) := ⟨wd_328, wd_329, by decide +kernel⟩
theorem gm_4 : GM 4 := ⟨wd_350, wd_52, cok_0, plainFor_of_name pncok_0, by decide +kernel⟩
theorem km_4 : VM 4 (.retAddr 3) := ⟨wd_348, wd_349, by decide +kernel⟩
theorem gm_5 : GM 5 := ⟨wd_371, wd_52, cok_0, plainFor_of_name pncok_0, by decide +kernel⟩
theorem km_5 : VM 5 (.retAddr 2) := ⟨wd_369, wd_370, by decide +kernel⟩
theorem gm_6 : GM 6 := ⟨wd_383, wd_52, cok_0, plainFor_of_name pncok_0, by decide +kernel⟩
theorem km_6 : VM 6 (.retAddr 2) := ⟨wd_381, wd_382, by decide +kernel⟩
theorem gm_7 : GM 7 := ⟨wd_494, wd_52, cok_0, plainFor_of_name pncok_0, by decide +kernel⟩
theorem km_7 : VM 7 (.retAddr 1) := ⟨wd_492, wd_493, by decide +kernel⟩
theorem gm_8 : GM 8 := ⟨wd_506, wd_52, cok_0, plainFor_of_name pncok_0, by decide +kernel⟩
theorem km_8 : VM 8 (.retAddr 3) := ⟨wd_504, wd_505, by decide +kernel⟩
theorem gm_9 : GM 9 := ⟨wd_518, wd_52, cok_0, plainFor_of_name pncok_0, by decide +kernel⟩
theorem km_9 : VM 9 (.retAddr 3) := ⟨wd_516, wd_517, by decide +kernel⟩
theorem gm_10 : GM 10 := ⟨wd_526, wd_52, cok_0, plainFor_of_name pncok_0, by decide +kernel⟩
theorem km_10 : VM 10 (.retAddr 3) := ⟨wd_524, wd_525, by decide +kernel⟩
theorem gm_11 : GM 11 := ⟨wd_553, wd_52, cok_0, plainFor_of_name pncok_0, by decide +kernel⟩
theorem km_11 : VM 11 (.retAddr 2) := ⟨wd_551, wd_552, by decide +kernel⟩
theorem gm_12 : GM 12 := ⟨wd_559, wd_52, cok_0, plainFor_of_name pncok_0, by decide +kernel⟩
theorem km_12 : VM 12 (.retAddr 2) := ⟨wd_557, wd_558, by decide +kernel⟩
theorem gm_13 : GM 13 := ⟨wd_564, wd_52, cok_0, plainFor_of_name pncok_0, by decide +kernel⟩
theorem km_13 : VM 13 (.retAddr 3) := ⟨wd_562, wd_563, by decide +kernel⟩
theorem gm_14 : GM 14 := ⟨wd_578, wd_52, cok_0, plainFor_of_name pncok_0, by decide +kernel⟩
theorem km_14 : VM 14 (.retAddr 2) := ⟨wd_576, wd_577, by decide +kernel⟩
theorem gm_15 : GM 15 := ⟨wd_602, wd_52, cok_0, plainFor_of_name pncok_0, by decide +kernel⟩
theorem km_15 : VM 15 (.retAddr 1) := ⟨wd_600, wd_601, by decide +kernel⟩
theorem gm_16 : GM 16 := ⟨wd_606, wd_52, cok_0, plainFor_of_name pncok_0, by decide +kernel⟩
theorem km_16 : VM 16 (.retAddr 2) := ⟨wd_604, wd_605, by decide +kernel⟩
theorem gm_17 : GM 17 := ⟨wd_612, wd_52, cok_0, plainFor_of_name pncok_0, by decide +kernel⟩
theorem km_17 : VM 17 (.retAddr 3) := ⟨wd_610, wd_611, by decide +kernel⟩
theorem gm_18 : GM 18 := ⟨wd_618, wd_52, cok_0, plainFor_of_name pncok_0, by decide +kernel⟩
theorem km_18 : VM 18 (.retAddr 2) := ⟨wd_616, wd_617, by decide +kernel⟩
theorem gm_19 : GM 19 := ⟨wd_628, wd_52, cok_0, plainFor_of_name pncok_0, by decide +kernel⟩
theorem km_19 : VM 19 (.retAddr 1) := ⟨wd_626, wd_627, by decide +kernel⟩
theorem gm_20 : GM 20 := ⟨wd_637, wd_52, cok_0, plainFor_of_name pncok_0, by decide +kernel⟩
theorem km_20 : VM 20 (.retAddr 2) := ⟨wd_635, wd_636, by decide +kernel⟩
theorem gm_21 : GM 21 := ⟨wd_648, wd_52, cok_0, plainFor_of_name pncok_0, by decide +kernel⟩
theorem km_21 : VM 21 (.retAddr 1) := ⟨wd_646, wd_647, by decide +kernel⟩
theorem gm_22 : GM 22 := ⟨wd_656, wd_52, cok_0, plainFor_of_name pncok_0, by decide +kernel⟩
theorem km_22 : VM 22 (.retAddr 2) := ⟨wd_654, wd_655, by decide +kernel⟩
theorem gm_23 : GM 23 := ⟨wd_697, wd_52, cok_0, plainFor_of_name pncok_0, by decide +kernel⟩
theorem km_23 : VM 23 (.retAddr 1) := ⟨wd_695, wd_696, by decide +kernel⟩
theorem gm_24 : GM 24 := ⟨wd_341, wd_52, cok_0, plainFor_of_name pncok_0, by decide +kernel⟩
theorem km_24 : SM 24 (.retAddr 3) := ⟨wd_340, by decide +kernel⟩
theorem gm_25 : GM 25 := ⟨wd_321, wd_52, cok_0, plainFor_of_name pncok_0, by decide +kernel⟩
theorem km_25 : SM 25 (.retAddr 1) := ⟨wd_320, by decide +kernel⟩
theorem gm_26 : GM 26 := ⟨wd_427, wd_52, cok_0, plainFor_of_name pncok_0, by decide +kernel⟩
theorem km_26 : SM 26 (.retAddr 2) := ⟨wd_426, by decide +kernel⟩
theorem gm_27 : GM 27 := ⟨wd_109, wd_52, cok_0, plainFor_of_name pncok_0, by decide +kernel⟩
theorem km_27 : SM 27 (.retAddr 2) := ⟨wd_108, by decide +kernel⟩
theorem gm_28 : GM 28 := ⟨wd_573, wd_52, cok_0, plainFor_of_name pncok_0, by decide +kernel⟩
theorem km_28 : SM 28 (.retAddr 1) := ⟨wd_572, by decide +kernel⟩
theorem gm_29 : GM 29 := ⟨wd_209, wd_56, cok_1, plainFor_of_name pncok_1, by decide +kernel⟩
theorem km_29 : IM 29 (.retAddr 1) := ⟨wd_208, rfl, rfl, by decide +kernel⟩
theorem gm_30 : GM 30 := ⟨wd_387, wd_56, cok_1, plainFor_of_name pncok_1, by decide +kernel⟩
theorem km_30 : VM 30 (.retAddr 3) := ⟨wd_385, wd_386, by decide +kernel⟩
theorem gm_31 : GM 31 := ⟨wd_399, wd_56, cok_1, plainFor_of_name pncok_1, by decide +kernel⟩
theorem km_31 : VM 31 (.retAddr 1) := ⟨wd_398, wd_1, by decide +kernel⟩
theorem gm_32 : GM 32 := ⟨wd_470, wd_56, cok_1, plainFor_of_name pncok_1, by decide +kernel⟩
theorem km_32 : VM 32 (.retAddr 2) := ⟨wd_469, wd_4, by decide +kernel⟩
theorem gm_33 : GM 33 := ⟨wd_403, wd_56, cok_1, plainFor_of_name pncok_1, by decide +kernel⟩
theorem km_33 : VM 33 (.retAddr 2) := ⟨wd_401, wd_402, by decide +kernel⟩
theorem gm_34 : GM 34 := ⟨wd_416, wd_56, cok_1, plainFor_of_name pncok_1, by decide +kernel⟩
theorem km_34 : VM 34 (.retAddr 2) := ⟨wd_415, wd_2, by decide +kernel⟩
theorem gm_35 : GM 35 := ⟨wd_441, wd_56, cok_1, plainFor_of_name pncok_1, by decide +kernel⟩
theorem km_35 : VM 35 (.retAddr 3) := ⟨wd_440, wd_3, by decide +kernel⟩
theorem gm_36 : GM 36 := ⟨wd_74, wd_53, cok_2, plainFor_of_name pncok_2, by decide +kernel⟩
theorem km_36 : IM 36 (.retAddr 1) := ⟨wd_73, rfl, rfl, by decide +kernel⟩
theorem gm_37 : GM 37 := ⟨wd_305, wd_53, cok_2, plainFor_of_name pncok_2, by decide +kernel⟩
theorem km_37 : SM 37 (.retAddr 2) := ⟨wd_304, by decide +kernel⟩
theorem gm_38 : GM 38 := ⟨wd_338, wd_53, cok_2, plainFor_of_name pncok_2, by decide +kernel⟩
theorem km_38 : VM 38 (.retAddr 2) := ⟨wd_336, wd_337, by decide +kernel⟩
theorem gm_39 : GM 39 := ⟨wd_358, wd_53, cok_2, plainFor_of_name pncok_2, by decide +kernel⟩
theorem km_39 : VM 39 (.retAddr 2) := ⟨wd_356, wd_357, by decide +kernel⟩
theorem gm_40 : GM 40 := ⟨wd_393, wd_53, cok_2, plainFor_of_name pncok_2, by decide +kernel⟩
theorem km_40 : VM 40 (.retAddr 1) := ⟨wd_391, wd_392, by decide +kernel⟩
theorem gm_41 : GM 41 := ⟨wd_479, wd_53, cok_2, plainFor_of_name pncok_2, by decide +kernel⟩
theorem km_41 : VM 41 (.retAddr 1) := ⟨wd_477, wd_478, by decide +kernel⟩
theorem gm_42 : GM 42 := ⟨wd_362, wd_53, cok_2, plainFor_of_name pncok_2, by decide +kernel⟩
theorem km_42 : VM 42 (.retAddr 2) := ⟨wd_360, wd_361, by decide +kernel⟩
theorem gm_43 : GM 43 := ⟨wd_346, wd_53, cok_2, plainFor_of_name pncok_2, by decide +kernel⟩
theorem km_43 : VM 43 (.retAddr 2) := ⟨wd_344, wd_345, by decide +kernel⟩
theorem gm_44 : GM 44 := ⟨wd_445, wd_53, cok_2, plainFor_of_name pncok_2, by decide +kernel⟩
theorem km_44 : VM 44 (.retAddr 2) := ⟨wd_443, wd_444, by decide +kernel⟩
theorem gm_45 : GM 45 := ⟨wd_431, wd_53, cok_2, plainFor_of_name pncok_2, by decide +kernel⟩
theorem km_45 : VM 45 (.retAddr 2) := ⟨wd_429, wd_430, by decide +kernel⟩
theorem gm_46 : GM 46 := ⟨wd_420, wd_53, cok_2, plainFor_of_name pncok_2, by decide +kernel⟩
theorem km_46 : VM 46 (.retAddr 3) := ⟨wd_418, wd_419, by decide +kernel⟩
theorem gm_47 : GM 47 := ⟨wd_367, wd_53, cok_2, plainFor_of_name pncok_2, by decide +kernel⟩
theorem km_47 : VM 47 (.retAddr 1) := ⟨wd_365, wd_366, by decide +kernel⟩
theorem gm_48 : GM 48 := ⟨wd_531, wd_53, cok_2, plainFor_of_name pncok_2, by decide +kernel⟩
theorem km_48 : VM 48 (.retAddr 2) := ⟨wd_529, wd_530, by decide +kernel⟩
theorem gm_49 : GM 49 := ⟨wd_568, wd_53, cok_2, plainFor_of_name pncok_2, by decide +kernel⟩
theorem km_49 : VM 49 (.retAddr 2) := ⟨wd_566, wd_567, by decide +kernel⟩
theorem gm_50 : GM 50 := ⟨wd_502, wd_53, cok_2, plainFor_of_name pncok_2, by decide +kernel⟩
theorem km_50 : VM 50 (.retAddr 1) := ⟨wd_500, wd_501, by decide +kernel⟩
theorem gm_51 : GM 51 := ⟨wd_624, wd_53, cok_2, plainFor_of_name pncok_2, by decide +kernel⟩
theorem km_51 : VM 51 (.retAddr 1) := ⟨wd_622, wd_623, by decide +kernel⟩
theorem gm_52 : GM 52 := ⟨wd_313, wd_53, cok_2, plainFor_of_name pncok_2, by decide +kernel⟩
theorem km_52 : VM 52 (.retAddr 1) := ⟨wd_311, wd_312, by decide +kernel⟩
theorem gm_53 : GM 53 := ⟨wd_334, wd_53, cok_2, plainFor_of_name pncok_2, by decide +kernel⟩
theorem km_53 : VM 53 (.retAddr 4) := ⟨wd_332, wd_333, by decide +kernel⟩
theorem gm_54 : GM 54 := ⟨wd_354, wd_53, cok_2, plainFor_of_name pncok_2, by decide +kernel⟩
theorem km_54 : VM 54 (.retAddr 3) := ⟨wd_352, wd_353, by decide +kernel⟩
theorem gm_55 : GM 55 := ⟨wd_375, wd_53, cok_2, plainFor_of_name pncok_2, by decide +kernel⟩
theorem km_55 : VM 55 (.retAddr 2) := ⟨wd_373, wd_374, by decide +kernel⟩
theorem gm_56 : GM 56 := ⟨wd_498, wd_53, cok_2, plainFor_of_name pncok_2, by decide +kernel⟩
theorem km_56 : VM 56 (.retAddr 1) := ⟨wd_496, wd_497, by decide +kernel⟩
theorem gm_57 : GM 57 := ⟨wd_510, wd_53, cok_2, plainFor_of_name pncok_2, by decide +kernel⟩
theorem km_57 : VM 57 (.retAddr 3) := ⟨wd_508, wd_509, by decide +kernel⟩
theorem gm_58 : GM 58 := ⟨wd_435, wd_53, cok_2, plainFor_of_name pncok_2, by decide +kernel⟩
theorem km_58 : VM 58 (.retAddr 2) := ⟨wd_433, wd_434, by decide +kernel⟩
theorem gm_59 : GM 59 := ⟨wd_453, wd_53, cok_2, plainFor_of_name pncok_2, by decide +kernel⟩
theorem km_59 : VM 59 (.retAddr 3) := ⟨wd_451, wd_452, by decide +kernel⟩
theorem gm_60 : GM 60 := ⟨wd_475, wd_53, cok_2, plainFor_of_name pncok_2, by decide +kernel⟩
theorem km_60 : VM 60 (.retAddr 2) := ⟨wd_473, wd_474, by decide +kernel⟩
theorem gm_61 : GM 61 := ⟨wd_466, wd_53, cok_2, plainFor_of_name pncok_2, by decide +kernel⟩
theorem km_61 : VM 61 (.retAddr 2) := ⟨wd_464, wd_465, by decide +kernel⟩
theorem gm_62 : GM 62 := ⟨wd_483, wd_53, cok_2, plainFor_of_name pncok_2, by decide +kernel⟩
theorem km_62 : VM 62 (.retAddr 2) := ⟨wd_481, wd_482, by decide +kernel⟩
theorem gm_63 : GM 63 := ⟨wd_192, wd_55, cok_3, plainFor_of_name pncok_3, by decide +kernel⟩
theorem km_63 : IM 63 (.retAddr 1) := ⟨wd_191, rfl, rfl, by decide +kernel⟩
theorem gm_64 : GM 64 := ⟨wd_302, wd_55, cok_3, plainFor_of_name pncok_3, by decide +kernel⟩
theorem km_64 : VM 64 (.retAddr 2) := ⟨wd_300, wd_301, by decide +kernel⟩
theorem gm_65 : GM 65 := ⟨wd_318, wd_55, cok_3, plainFor_of_name pncok_3, by decide +kernel⟩
theorem km_65 : VM 65 (.retAddr 2) := ⟨wd_316, wd_317, by decide +kernel⟩
theorem gm_66 : GM 66 := ⟨wd_326, wd_55, cok_3, plainFor_of_name pncok_3, by decide +kernel⟩
theorem km_66 : VM 66 (.retAddr 1) := ⟨wd_325, wd_0, by decide +kernel⟩
theorem gm_67 : GM 67 := ⟨wd_632, wd_55, cok_3, plainFor_of_name pncok_3, by decide +kernel⟩
theorem km_67 : VM 67 (.retAddr 2) := ⟨wd_630, wd_631, by decide +kernel⟩
theorem gm_68 : GM 68 := ⟨wd_244, wd_58, cok_4, plainFor_of_name pncok_4, by decide +kernel⟩
theorem km_68 : IM 68 (.retAddr 1) := ⟨wd_243, rfl, rfl, by decide +kernel⟩
theorem gm_69 : GM 69 := ⟨wd_641, wd_58, cok_4, plainFor_of_name pncok_4, by decide +kernel⟩
theorem km_69 : VM 69 (.retAddr 2) := ⟨wd_639, wd_640, by decide +kernel⟩
theorem gm_70 : GM 70 := ⟨wd_652, wd_58, cok_4, plainFor_of_name pncok_4, by decide +kernel⟩
theorem km_70 : VM 70 (.retAddr 1) := ⟨wd_650, wd_651, by decide +kernel⟩
theorem gm_71 : GM 71 := ⟨wd_660, wd_58, cok_4, plainFor_of_name pncok_4, by decide +kernel⟩
theorem km_71 : VM 71 (.retAddr 3) := ⟨wd_658, wd_659, by decide +kernel⟩
theorem gm_72 : GM 72 := ⟨wd_683, wd_58, cok_4, plainFor_of_name pncok_4, by decide +kernel⟩
theorem km_72 : VM 72 (.retAddr 4) := ⟨wd_682, wd_11, by decide +kernel⟩
theorem gm_73 : GM 73 := ⟨wd_687, wd_58, cok_4, plainFor_of_name pncok_4, by decide +kernel⟩
theorem km_73 : VM 73 (.retAddr 3) := ⟨wd_686, wd_12, by decide +kernel⟩
theorem gm_74 : GM 74 := ⟨wd_664, wd_58, cok_4, plainFor_of_name pncok_4, by decide +kernel⟩
theorem km_74 : VM 74 (.retAddr 2) := ⟨wd_663, wd_7, by decide +kernel⟩
theorem gm_75 : GM 75 := ⟨wd_671, wd_58, cok_4, plainFor_of_name pncok_4, by decide +kernel⟩
theorem km_75 : SM 75 (.retAddr 1) := ⟨wd_670, by decide +kernel⟩
theorem gm_76 : GM 76 := ⟨wd_668, wd_58, cok_4, plainFor_of_name pncok_4, by decide +kernel⟩
theorem km_76 : VM 76 (.retAddr 1) := ⟨wd_667, wd_8, by decide +kernel⟩
theorem gm_77 : GM 77 := ⟨wd_675, wd_58, cok_4, plainFor_of_name pncok_4, by decide +kernel⟩
theorem km_77 : VM 77 (.retAddr 2) := ⟨wd_674, wd_9, by decide +kernel⟩
theorem gm_78 : GM 78 := ⟨wd_679, wd_58, cok_4, plainFor_of_name pncok_4, by decide +kernel⟩
theorem km_78 : VM 78 (.retAddr 2) := ⟨wd_678, wd_10, by decide +kernel⟩
theorem gm_79 : GM 79 := ⟨wd_228, wd_57, cok_5, plainFor_of_name pncok_5, by decide +kernel⟩
theorem km_79 : IM 79 (.retAddr 1) := ⟨wd_227, rfl, rfl, by decide +kernel⟩
theorem gm_80 : GM 80 := ⟨wd_536, wd_57, cok_5, plainFor_of_name pncok_5, by decide +kernel⟩
theorem km_80 : VM 80 (.retAddr 3) := ⟨wd_534, wd_535, by decide +kernel⟩
theorem gm_81 : GM 81 := ⟨wd_543, wd_57, cok_5, plainFor_of_name pncok_5, by decide +kernel⟩
theorem km_81 : VM 81 (.retAddr 3) := ⟨wd_542, wd_5, by decide +kernel⟩
theorem gm_82 : GM 82 := ⟨wd_584, wd_57, cok_5, plainFor_of_name pncok_5, by decide +kernel⟩
theorem km_82 : VM 82 (.retAddr 2) := ⟨wd_582, wd_583, by decide +kernel⟩
theorem gm_83 : GM 83 := ⟨wd_590, wd_57, cok_5, plainFor_of_name pncok_5, by decide +kernel⟩
theorem km_83 : VM 83 (.retAddr 2) := ⟨wd_589, wd_6, by decide +kernel⟩
theorem gm_84 : GM 84 := ⟨wd_595, wd_57, cok_5, plainFor_of_name pncok_5, by decide +kernel⟩
theorem km_84 : SM 84 (.retAddr 3) := ⟨wd_594, by decide +kernel⟩
theorem gm_85 : GM 85 := ⟨wd_80, wd_54, cok_6, plainFor_of_name pncok_6, by decide +kernel⟩
theorem km_85 : IM 85 (.retAddr 1) := ⟨wd_79, rfl, rfl, by decide +kernel⟩
theorem gm_86 : GM 86 := ⟨wd_379, wd_54, cok_6, plainFor_of_name pncok_6, by decide +kernel⟩
theorem km_86 : VM 86 (.retAddr 1) := ⟨wd_377, wd_378, by decide +kernel⟩
theorem gm_87 : GM 87 := ⟨wd_449, wd_54, cok_6, plainFor_of_name pncok_6, by decide +kernel⟩
theorem km_87 : VM 87 (.retAddr 4) := ⟨wd_447, wd_448, by decide +kernel⟩
theorem gm_88 : GM 88 := ⟨wd_412, wd_54, cok_6, plainFor_of_name pncok_6, by decide +kernel⟩
theorem km_88 : VM 88 (.retAddr 2) := ⟨wd_410, wd_411, by decide +kernel⟩
theorem gm_89 : GM 89 := ⟨wd_408, wd_54, cok_6, plainFor_of_name pncok_6, by decide +kernel⟩
theorem km_89 : VM 89 (.retAddr 1) := ⟨wd_406, wd_407, by decide +kernel⟩
theorem gm_90 : GM 90 := ⟨wd_457, wd_54, cok_6, plainFor_of_name pncok_6, by decide +kernel⟩
theorem km_90 : VM 90 (.retAddr 2) := ⟨wd_455, wd_456, by decide +kernel⟩
theorem gm_91 : GM 91 := ⟨wd_461, wd_54, cok_6, plainFor_of_name pncok_6, by decide +kernel⟩
theorem km_91 : VM 91 (.retAddr 2) := ⟨wd_459, wd_460, by decide +kernel⟩
theorem gm_92 : GM 92 := ⟨wd_424, wd_54, cok_6, plainFor_of_name pncok_6, by decide +kernel⟩
theorem km_92 : VM 92 (.retAddr 2) := ⟨wd_422, wd_423, by decide +kernel⟩
theorem gm_93 : GM 93 := ⟨wd_308, wd_54, cok_6, plainFor_of_name pncok_6, by decide +kernel⟩
theorem km_93 : SM 93 (.retAddr 2) := ⟨wd_307, by decide +kernel⟩
theorem gm_94 : GM 94 := ⟨wd_702, wd_59, cok_8, plainFor_of_name pncok_8, by decide +kernel⟩
theorem km_94 : IM 94 (.retAddr 1) := ⟨wd_701, rfl, rfl, by decide +kernel⟩
theorem gm_95 : GM 95 := ⟨wd_797, wd_59, cok_8, plainFor_of_name pncok_8, by decide +kernel⟩
theorem km_95 : SM 95 (.retAddr 3) := ⟨wd_796, by decide +kernel⟩
theorem gm_96 : GM 96 := ⟨wd_792, wd_59, cok_8, plainFor_of_name pncok_8, by decide +kernel⟩
theorem km_96 : SM 96 (.retAddr 1) := ⟨wd_791, by decide +kernel⟩
theorem gm_97 : GM 97 := ⟨wd_785, wd_59, cok_8, plainFor_of_name pncok_8, by decide +kernel⟩
theorem km_97 : SM 97 (.retAddr 2) := ⟨wd_784, by decide +kernel⟩
theorem gm_98 : GM 98 := ⟨wd_782, wd_59, cok_8, plainFor_of_name pncok_8, by decide +kernel⟩
theorem km_98 : VM 98 (.retAddr 1) := ⟨wd_781, wd_13, by decide +kernel⟩
theorem gm_99 : GM 99 := ⟨wd_789, wd_59, cok_8, plainFor_of_name pncok_8, by decide +kernel⟩
theorem km_99 : VM 99 (.retAddr 2) := ⟨wd_788, wd_14, by decide +kernel⟩
theorem gm_100 : GM 100 := ⟨wd_809, wd_59, cok_8, plainFor_of_name pncok_8, by decide +kernel⟩
theorem km_100 : VM 100 (.retAddr 2) := ⟨wd_808, wd_16, by decide +kernel⟩
theorem gm_101 : GM 101 := ⟨wd_825, wd_59, cok_8, plainFor_of_name pncok_8, by decide +kernel⟩
theorem km_101 : VM 101 (.retAddr 2) := ⟨wd_824, wd_19, by decide +kernel⟩
theorem gm_102 : GM 102 := ⟨wd_829, wd_59, cok_8, plainFor_of_name pncok_8, by decide +kernel⟩
theorem km_102 : VM 102 (.retAddr 3) := ⟨wd_828, wd_20, by decide +kernel⟩
theorem gm_103 : GM 103 := ⟨wd_813, wd_59, cok_8, plainFor_of_name pncok_8, by decide +kernel⟩
theorem km_103 : VM 103 (.retAddr 4) := ⟨wd_812, wd_17, by decide +kernel⟩
theorem gm_104 : GM 104 := ⟨wd_838, wd_59, cok_8, plainFor_of_name pncok_8, by decide +kernel⟩
theorem km_104 : VM 104 (.retAddr 2) := ⟨wd_837, wd_22, by decide +kernel⟩
theorem gm_105 : GM 105 := ⟨wd_882, wd_59, cok_8, plainFor_of_name pncok_8, by decide +kernel⟩
theorem km_105 : VM 105 (.retAddr 3) := ⟨wd_881, wd_31, by decide +kernel⟩
theorem gm_106 : GM 106 := ⟨wd_886, wd_59, cok_8, plainFor_of_name pncok_8, by decide +kernel⟩
theorem km_106 : VM 106 (.retAddr 2) := ⟨wd_885, wd_32, by decide +kernel⟩
theorem gm_107 : GM 107 := ⟨wd_834, wd_59, cok_8, plainFor_of_name pncok_8, by decide +kernel⟩
theorem km_107 : VM 107 (.retAddr 1) := ⟨wd_833, wd_21, by decide +kernel⟩
theorem gm_108 : GM 108 := ⟨wd_935, wd_59, cok_8, plainFor_of_name pncok_8, by decide +kernel⟩
theorem km_108 : VM 108 (.retAddr 2) := ⟨wd_934, wd_39, by decide +kernel⟩
theorem gm_109 : GM 109 := ⟨wd_908, wd_59, cok_8, plainFor_of_name pncok_8, by decide +kernel⟩
theorem km_109 : VM 109 (.retAddr 1) := ⟨wd_907, wd_36, by decide +kernel⟩
theorem gm_110 : GM 110 := ⟨wd_939, wd_59, cok_8, plainFor_of_name pncok_8, by decide +kernel⟩
theorem km_110 : VM 110 (.retAddr 2) := ⟨wd_938, wd_40, by decide +kernel⟩
theorem gm_111 : GM 111 := ⟨wd_870, wd_59, cok_8, plainFor_of_name pncok_8, by decide +kernel⟩
theorem km_111 : VM 111 (.retAddr 1) := ⟨wd_869, wd_28, by decide +kernel⟩
theorem gm_112 : GM 112 := ⟨wd_878, wd_59, cok_8, plainFor_of_name pncok_8, by decide +kernel⟩
theorem km_112 : VM 112 (.retAddr 2) := ⟨wd_877, wd_30, by decide +kernel⟩
theorem gm_113 : GM 113 := ⟨wd_892, wd_59, cok_8, plainFor_of_name pncok_8, by decide +kernel⟩
theorem km_113 : VM 113 (.retAddr 2) := ⟨wd_891, wd_33, by decide +kernel⟩
theorem gm_114 : GM 114 := ⟨wd_874, wd_59, cok_8, plainFor_of_name pncok_8, by decide +kernel⟩
theorem km_114 : VM 114 (.retAddr 1) := ⟨wd_873, wd_29, by decide +kernel⟩
theorem gm_115 : GM 115 := ⟨wd_866, wd_59, cok_8, plainFor_of_name pncok_8, by decide +kernel⟩
theorem km_115 : VM 115 (.retAddr 1) := ⟨wd_865, wd_27, by decide +kernel⟩
theorem gm_116 : GM 116 := ⟨wd_900, wd_59, cok_8, plainFor_of_name pncok_8, by decide +kernel⟩
theorem km_116 : VM 116 (.retAddr 3) := ⟨wd_899, wd_35, by decide +kernel⟩
theorem gm_117 : GM 117 := ⟨wd_896, wd_59, cok_8, plainFor_of_name pncok_8, by decide +kernel⟩
theorem km_117 : VM 117 (.retAddr 1) := ⟨wd_895, wd_34, by decide +kernel⟩
theorem gm_118 : GM 118 := ⟨wd_862, wd_59, cok_8, plainFor_of_name pncok_8, by decide +kernel⟩
theorem km_118 : VM 118 (.retAddr 1) := ⟨wd_861, wd_26, by decide +kernel⟩
theorem gm_119 : GM 119 := ⟨wd_858, wd_59, cok_8, plainFor_of_name pncok_8, by decide +kernel⟩
theorem km_119 : VM 119 (.retAddr 2) := ⟨wd_857, wd_25, by decide +kernel⟩
theorem gm_120 : GM 120 := ⟨wd_805, wd_59, cok_8, plainFor_of_name pncok_8, by decide +kernel⟩
theorem km_120 : VM 120 (.retAddr 4) := ⟨wd_804, wd_15, by decide +kernel⟩
theorem gm_121 : GM 121 := ⟨wd_821, wd_59, cok_8, plainFor_of_name pncok_8, by decide +kernel⟩
theorem km_121 : VM 121 (.retAddr 3) := ⟨wd_820, wd_18, by decide +kernel⟩
theorem gm_122 : GM 122 := ⟨wd_846, wd_59, cok_8, plainFor_of_name pncok_8, by decide +kernel⟩
theorem km_122 : VM 122 (.retAddr 2) := ⟨wd_845, wd_23, by decide +kernel⟩
theorem gm_123 : GM 123 := ⟨wd_854, wd_59, cok_8, plainFor_of_name pncok_8, by decide +kernel⟩
theorem km_123 : VM 123 (.retAddr 2) := ⟨wd_853, wd_24, by decide +kernel⟩
theorem gm_124 : GM 124 := ⟨wd_919, wd_59, cok_8, plainFor_of_name pncok_8, by decide +kernel⟩
theorem km_124 : SM 124 (.retAddr 2) := ⟨wd_918, by decide +kernel⟩
theorem gm_125 : GM 125 := ⟨wd_916, wd_59, cok_8, plainFor_of_name pncok_8, by decide +kernel⟩
theorem km_125 : VM 125 (.retAddr 3) := ⟨wd_915, wd_37, by decide +kernel⟩
theorem gm_126 : GM 126 := ⟨wd_777, wd_59, cok_8, plainFor_of_name pncok_8, by decide +kernel⟩
theorem km_126 : VM 126 (.retAddr 1) := ⟨wd_775, wd_776, by decide +kernel⟩
theorem gm_127 : GM 127 := ⟨wd_801, wd_59, cok_8, plainFor_of_name pncok_8, by decide +kernel⟩
theorem km_127 : VM 127 (.retAddr 4) := ⟨wd_799, wd_800, by decide +kernel⟩
theorem gm_128 : GM 128 := ⟨wd_817, wd_59, cok_8, plainFor_of_name pncok_8, by decide +kernel⟩
theorem km_128 : VM 128 (.retAddr 3) := ⟨wd_815, wd_816, by decide +kernel⟩
theorem gm_129 : GM 129 := ⟨wd_842, wd_59, cok_8, plainFor_of_name pncok_8, by decide +kernel⟩
theorem km_129 : VM 129 (.retAddr 2) := ⟨wd_840, wd_841, by decide +kernel⟩
theorem gm_130 : GM 130 := ⟨wd_850, wd_59, cok_8, plainFor_of_name pncok_8, by decide +kernel⟩
theorem km_130 : VM 130 (.retAddr 2) := ⟨wd_848, wd_849, by decide +kernel⟩
theorem gm_131 : GM 131 := ⟨wd_904, wd_59, cok_8, plainFor_of_name pncok_8, by decide +kernel⟩
theorem km_131 : VM 131 (.retAddr 1) := ⟨wd_902, wd_903, by decide +kernel⟩
theorem gm_132 : GM 132 := ⟨wd_912, wd_59, cok_8, plainFor_of_name pncok_8, by decide +kernel⟩
theorem km_132 : VM 132 (.retAddr 3) := ⟨wd_910, wd_911, by decide +kernel⟩
theorem gm_133 : GM 133 := ⟨wd_927, wd_59, cok_8, plainFor_of_name pncok_8, by decide +kernel⟩
theorem km_133 : VM 133 (.retAddr 2) := ⟨wd_926, wd_38, by decide +kernel⟩
theorem gm_134 : GM 134 := ⟨wd_923, wd_59, cok_8, plainFor_of_name pncok_8, by decide +kernel⟩
theorem km_134 : VM 134 (.retAddr 3) := ⟨wd_921, wd_922, by decide +kernel⟩
theorem gm_135 : GM 135 := ⟨wd_943, wd_59, cok_8, plainFor_of_name pncok_8, by decide +kernel⟩
theorem km_135 : VM 135 (.retAddr 2) := ⟨wd_942, wd_41, by decide +kernel⟩
theorem gm_136 : GM 136 := ⟨wd_931, wd_59, cok_8, plainFor_of_name pncok_8, by decide +kernel⟩
theorem km_136 : VM 136 (.retAddr 3) := ⟨wd_929, wd_930, by decide +kernel⟩
theorem gm_137 : GM 137 := ⟨wd_947, wd_59, cok_8, plainFor_of_name pncok_8, by decide +kernel⟩
theorem km_137 : VM 137 (.retAddr 2) := ⟨wd_945, wd_946, by decide +kernel⟩
theorem gm_138 : GM 138 := ⟨wd_951, wd_59, cok_8, plainFor_of_name pncok_8, by decide +kernel⟩
theorem km_138 : VM 138 (.retAddr 2) := ⟨wd_949, wd_950, by decide +kernel⟩
theorem gm_139 : GM 139 := ⟨wd_955, wd_59, cok_8, plainFor_of_name pncok_8, by decide +kernel⟩
theorem km_139 : VM 139 (.retAddr 3) := ⟨wd_953, wd_954, by decide +kernel⟩
theorem gm_140 : GM 140 := ⟨wd_977, wd_59, cok_8, plainFor_of_name pncok_8, by decide +kernel⟩
theorem km_140 : VM 140 (.retAddr 3) := ⟨wd_976, wd_43, by decide +kernel⟩
theorem gm_141 : GM 141 := ⟨wd_973, wd_59, cok_8, plainFor_of_name pncok_8, by decide +kernel⟩
theorem km_141 : VM 141 (.retAddr 1) := ⟨wd_972, wd_42, by decide +kernel⟩
theorem gm_142 : GM 142 := ⟨wd_969, wd_59, cok_8, plainFor_of_name pncok_8, by decide +kernel⟩
theorem km_142 : VM 142 (.retAddr 2) := ⟨wd_967, wd_968, by decide +kernel⟩
theorem gm_143 : GM 143 := ⟨wd_981, wd_59, cok_8, plainFor_of_name pncok_8, by decide +kernel⟩
theorem km_143 : VM 143 (.retAddr 1) := ⟨wd_979, wd_980, by decide +kernel⟩
theorem gm_144 : GM 144 := ⟨wd_985, wd_59, cok_8, plainFor_of_name pncok_8, by decide +kernel⟩
theorem km_144 : VM 144 (.retAddr 2) := ⟨wd_983, wd_984, by decide +kernel⟩
theorem gm_145 : GM 145 := ⟨wd_989, wd_59, cok_8, plainFor_of_name pncok_8, by decide +kernel⟩
theorem km_145 : VM 145 (.retAddr 3) := ⟨wd_987, wd_988, by decide +kernel⟩
theorem gm_146 : GM 146 := ⟨wd_997, wd_59, cok_8, plainFor_of_name pncok_8, by decide +kernel⟩
theorem km_146 : VM 146 (.retAddr 1) := ⟨wd_996, wd_44, by decide +kernel⟩
theorem gm_147 : GM 147 := ⟨wd_993, wd_59, cok_8, plainFor_of_name pncok_8, by decide +kernel⟩
theorem km_147 : VM 147 (.retAddr 2) := ⟨wd_991, wd_992, by decide +kernel⟩
theorem gm_148 : GM 148 := ⟨wd_1001, wd_59, cok_8, plainFor_of_name pncok_8, by decide +kernel⟩
theorem km_148 : VM 148 (.retAddr 1) := ⟨wd_999, wd_1000, by decide +kernel⟩
theorem gm_149 : GM 149 := ⟨wd_1005, wd_59, cok_8, plainFor_of_name pncok_8, by decide +kernel⟩
theorem km_149 : VM 149 (.retAddr 2) := ⟨wd_1003, wd_1004, by decide +kernel⟩
theorem gm_150 : GM 150 := ⟨wd_1009, wd_59, cok_8, plainFor_of_name pncok_8, by decide +kernel⟩
theorem km_150 : VM 150 (.retAddr 1) := ⟨wd_1007, wd_1008, by decide +kernel⟩
theorem gm_151 : GM 151 := ⟨wd_1021, wd_59, cok_8, plainFor_of_name pncok_8, by decide +kernel⟩
theorem km_151 : VM 151 (.retAddr 1) := ⟨wd_1020, wd_46, by decide +kernel⟩
theorem gm_152 : GM 152 := ⟨wd_1032, wd_59, cok_8, plainFor_of_name pncok_8, by decide +kernel⟩
theorem km_152 : VM 152 (.retAddr 2) := ⟨wd_1031, wd_48, by decide +kernel⟩
theorem gm_153 : GM 153 := ⟨wd_1036, wd_59, cok_8, plainFor_of_name pncok_8, by decide +kernel⟩
theorem km_153 : VM 153 (.retAddr 1) := ⟨wd_1035, wd_49, by decide +kernel⟩
theorem gm_154 : GM 154 := ⟨wd_1028, wd_59, cok_8, plainFor_of_name pncok_8, by decide +kernel⟩
theorem km_154 : SM 154 (.retAddr 1) := ⟨wd_1027, by decide +kernel⟩
theorem gm_155 : GM 155 := ⟨wd_1025, wd_59, cok_8, plainFor_of_name pncok_8, by decide +kernel⟩
theorem km_155 : VM 155 (.retAddr 2) := ⟨wd_1024, wd_47, by decide +kernel⟩
theorem gm_156 : GM 156 := ⟨wd_1040, wd_59, cok_8, plainFor_of_name pncok_8, by decide +kernel⟩
theorem km_156 : VM 156 (.retAddr 2) := ⟨wd_1039, wd_50, by decide +kernel⟩
theorem gm_157 : GM 157 := ⟨wd_1017, wd_59, cok_8, plainFor_of_name pncok_8, by decide +kernel⟩
theorem km_157 : VM 157 (.retAddr 1) := ⟨wd_1016, wd_45, by decide +kernel⟩
theorem gm_158 : GM 158 := ⟨wd_1013, wd_59, cok_8, plainFor_of_name pncok_8, by decide +kernel⟩
theorem km_158 : VM 158 (.retAddr 2) := ⟨wd_1011, wd_1012, by decide +kernel⟩
theorem gm_159 : GM 159 := ⟨wd_1044, wd_59, cok_8, plainFor_of_name pncok_8, by decide +kernel⟩
theorem km_159 : VM 159 (.retAddr 1) := ⟨wd_1042, wd_1043, by decide +kernel⟩
theorem gm_160 : GM 160 := ⟨wd_961, wd_61, cok_9, by decide +kernel, by decide +kernel⟩
theorem km_160 : SM 160 (.retAddr 1) := ⟨wd_960, by decide +kernel⟩
theorem gm_161 : GM 161 := ⟨wd_958, wd_61, cok_9, by decide +kernel, by decide +kernel⟩
theorem km_161 : SM 161 (.retAddr 1) := ⟨wd_957, by decide +kernel⟩
theorem lk0_0 : allP (LkP 0) cd0_0 := ⟨wd_62, trivial, ⟨rfl, Or.inl wd_64, gm_1, km_1⟩, trivial, wd_698, trivial, ⟨rfl, Or.inl wd_700, gm_94, km_94⟩, trivial, trivial, trivial, trivial, trivial, trivial, trivial, trivial, trivial, trivial, trivial, trivial, trivial, trivial, trivial, trivial, ⟨rfl, wd_295, gm_2, km_2⟩, trivial, ⟨rfl, wd_774, gm_126, km_126⟩, trivial, trivial, trivial, trivial, trivial, trivial, trivial, trivial, trivial, trivial, trivial, trivial, trivial, trivial, trivial, trivial, trivial, trivial, trivial, ⟨rfl, wd_327, gm_3, km_3⟩, trivial, trivial, trivial, trivial, trivial⟩
theorem ck0_0 : cd0_0.all (good 0) = true := by decide +kernel
theorem lk0_1 : allP (LkP 0) cd0_1 := ⟨trivial, trivial, trivial, trivial, trivial, trivial, trivial, trivial, trivial, trivial, trivial, trivial, ⟨rfl, wd_798, gm_127, km_127⟩, trivial, trivial, trivial, trivial, trivial, trivial, trivial, trivial, trivial, trivial, trivial, trivial, trivial, trivial, trivial, trivial, trivial, trivial, ⟨rfl, wd_347, gm_4, km_4⟩, trivial, trivial, trivial, trivial, trivial, trivial, trivial, trivial, trivial, trivial, trivial, trivial, trivial, trivial, trivial, ⟨rfl, wd_814, gm_128, km_128⟩, trivial, trivial, trivial⟩
theorem ck0_1 : cd0_1.all (good 0) = true := by decide +kernel
theorem lk0_2 : allP (LkP 0) cd0_2 := ⟨trivial, trivial, trivial, trivial, trivial, trivial, trivial, ⟨rfl, wd_368, gm_5, km_5⟩, trivial, trivial, trivial, trivial, trivial, trivial, ⟨rfl, wd_839, gm_129, km_129⟩, trivial, trivial, trivial, trivial, trivial, trivial, trivial, trivial, trivial, ⟨rfl, wd_380, gm_6, km_6⟩, trivial, trivial, trivial, trivial, trivial, trivial, ⟨rfl, wd_847, gm_130, km_130⟩, trivial, trivial, trivial, trivial, ⟨rfl, wd_491, gm_7, km_7⟩, trivial, ⟨rfl, wd_901, gm_131, km_131⟩, trivial, trivial, trivial, trivial, trivial, trivial, trivial, trivial, trivial, trivial, trivial, trivial⟩
theorem ck0_2 : cd0_2.all (good 0) = true := by decide +kernel
theorem lk0_3 : allP (LkP 0) cd0_3 := ⟨trivial, trivial, trivial, ⟨rfl, wd_503, gm_8, km_8⟩, trivial, trivial, trivial, trivial, trivial, trivial, trivial, trivial, trivial, trivial, trivial, ⟨rfl, wd_909, gm_132, km_132⟩, trivial, trivial, trivial, trivial, trivial, trivial, trivial, trivial, trivial, trivial, trivial, trivial, trivial, trivial, ⟨rfl, wd_515, gm_9, km_9⟩, trivial, trivial, trivial, trivial, trivial, trivial, trivial, trivial, trivial, trivial, trivial, ⟨rfl, wd_920, gm_134, km_134⟩, trivial, trivial, trivial, trivial, trivial, trivial, trivial, trivial⟩
theorem ck0_3 : cd0_3.all (good 0) = true := by decide +kernel
theorem lk0_4 : allP (LkP 0) cd0_4 := ⟨trivial, trivial, trivial, trivial, trivial, trivial, trivial, ⟨rfl, wd_523, gm_10, km_10⟩, trivial, trivial, trivial, trivial, trivial, trivial, trivial, trivial, trivial, trivial, trivial, ⟨rfl, wd_928, gm_136, km_136⟩, trivial, trivial, trivial, trivial, trivial, trivial, trivial, trivial, trivial, ⟨rfl, wd_550, gm_11, km_11⟩, trivial, trivial, trivial, trivial, trivial, trivial, ⟨rfl, wd_944, gm_137, km_137⟩, trivial, trivial, trivial, trivial, trivial, trivial, trivial, trivial, trivial, ⟨rfl, wd_556, gm_12, km_12⟩, trivial, trivial, trivial, trivial⟩
theorem ck0_4 : cd0_4.all (good 0) = true := by decide +kernel
theorem lk0_5 : allP (LkP 0) cd0_5 := ⟨trivial, trivial, trivial, ⟨rfl, wd_948, gm_138, km_138⟩, trivial, trivial, trivial, trivial, trivial, trivial, trivial, trivial, trivial, trivial, trivial, trivial, trivial, trivial, ⟨rfl, wd_561, gm_13, km_13⟩, trivial, trivial, trivial, trivial, trivial, trivial, trivial, trivial, trivial, trivial, trivial, ⟨rfl, wd_952, gm_139, km_139⟩, trivial, trivial, trivial, trivial, trivial, trivial, trivial, trivial, trivial, ⟨rfl, wd_575, gm_14, km_14⟩, trivial, trivial, trivial, trivial, trivial, trivial, ⟨rfl, wd_966, gm_142, km_142⟩, trivial, trivial, trivial⟩
theorem ck0_5 : cd0_5.all (good 0) = true := by decide +kernel
theorem lk0_6 : allP (LkP 0) cd0_6 := ⟨trivial, trivial, ⟨rfl, wd_599, gm_15, km_15⟩, trivial, ⟨rfl, wd_978, gm_143, km_143⟩, trivial, trivial, trivial, trivial, trivial, trivial, trivial, trivial, trivial, ⟨rfl, wd_603, gm_16, km_16⟩, trivial, trivial, trivial, trivial, trivial, trivial, ⟨rfl, wd_982, gm_144, km_144⟩, trivial, trivial, trivial, trivial, trivial, trivial, trivial, trivial, trivial, trivial, trivial, trivial, trivial, trivial, ⟨rfl, wd_609, gm_17, km_17⟩, trivial, trivial, trivial, trivial, trivial, trivial, trivial, trivial, trivial, trivial, trivial, ⟨rfl, wd_986, gm_145, km_145⟩, trivial, trivial⟩
theorem ck0_6 : cd0_6.all (good 0) = true := by decide +kernel
theorem lk0_7 : allP (LkP 0) cd0_7 := ⟨trivial, trivial, trivial, trivial, trivial, trivial, trivial, trivial, ⟨rfl, wd_615, gm_18, km_18⟩, trivial, trivial, trivial, trivial, trivial, trivial, ⟨rfl, wd_990, gm_147, km_147⟩, trivial, trivial, trivial, trivial, ⟨rfl, wd_625, gm_19, km_19⟩, trivial, ⟨rfl, wd_998, gm_148, km_148⟩, trivial, trivial, trivial, trivial, trivial, trivial, trivial, trivial, trivial, ⟨rfl, wd_634, gm_20, km_20⟩, trivial, trivial, trivial, trivial, trivial, trivial, ⟨rfl, wd_1002, gm_149, km_149⟩, trivial, trivial, trivial, trivial, ⟨rfl, wd_645, gm_21, km_21⟩, trivial, ⟨rfl, wd_1006, gm_150, km_150⟩, trivial, trivial, trivial, trivial⟩
theorem ck0_7 : cd0_7.all (good 0) = true := by decide +kernel
theorem lk0_8 : allP (LkP 0) cd0_8 := ⟨trivial, trivial, trivial, trivial, trivial, trivial, ⟨rfl, wd_653, gm_22, km_22⟩, trivial, trivial, trivial, trivial, trivial, trivial, ⟨rfl, wd_1010, gm_158, km_158⟩, trivial, trivial, trivial, trivial, ⟨rfl, wd_694, gm_23, km_23⟩, trivial, ⟨rfl, wd_1041, gm_159, km_159⟩, trivial, trivial, trivial, trivial, trivial, trivial, trivial, trivial⟩
theorem ck0_8 : cd0_8.all (good 0) = true := by decide +kernel
theorem lk0 : allP (LkP 0) cd0 := allP_app lk0_0 (allP_app lk0_1 (allP_app lk0_2 (allP_app lk0_3 (allP_app lk0_4 (allP_app lk0_5 (allP_app lk0_6 (allP_app lk0_7 (lk0_8))))))))
theorem ck0 : cd0.all (good 0) = true := all_app ck0_0 (all_app ck0_1 (all_app ck0_2 (all_app ck0_3 (all_app ck0_4 (all_app ck0_5 (all_app ck0_6 (all_app ck0_7 (ck0_8))))))))
theorem lk1 : allP (LkP 1) cd1 := ⟨trivial, wd_67, trivial, wd_70, trivial, ⟨rfl, Or.inl wd_72, gm_36, km_36⟩, ⟨wd_276, ⟨rfl, rfl, rfl⟩⟩, trivial, wd_70, trivial, ⟨rfl, Or.inl wd_72, gm_36, km_36⟩, ⟨wd_277, ⟨rfl, rfl, rfl⟩⟩, trivial, wd_188, trivial, ⟨rfl, Or.inl wd_190, gm_63, km_63⟩, ⟨wd_278, ⟨rfl, rfl, rfl⟩⟩, trivial, wd_205, trivial, ⟨rfl, Or.inr wd_207, gm_29, km_29⟩, ⟨wd_279, ⟨rfl, rfl, rfl⟩⟩, trivial, wd_224, trivial, ⟨rfl, Or.inr wd_226, gm_79, km_79⟩, ⟨wd_280, ⟨rfl, rfl, rfl⟩⟩, trivial, wd_240, trivial, ⟨rfl, Or.inr wd_242, gm_68, km_68⟩, ⟨wd_281, ⟨rfl, rfl, rfl⟩⟩, trivial, trivial⟩
theorem ck1 : cd1.all (good 1) = true := by decide +kernel
theorem lk2 : allP (LkP 2) cd2 := ⟨trivial, wd_278, trivial, wd_276, ⟨rfl, wd_299, gm_64, km_64⟩, trivial, wd_278, trivial, wd_276, ⟨rfl, wd_310, gm_52, km_52⟩, ⟨rfl, wd_315, gm_65, km_65⟩, trivial, trivial⟩
theorem ck2 : cd2.all (good 2) = true := by decide +kernel
theorem lk3 : allP (LkP 3) cd3 := ⟨trivial, wd_278, trivial, wd_276, ⟨rfl, wd_299, gm_64, km_64⟩, trivial, wd_278, trivial, wd_276, trivial, trivial, trivial, ⟨rfl, wd_331, gm_53, km_53⟩, ⟨rfl, wd_315, gm_65, km_65⟩, trivial, trivial⟩
theorem ck3 : cd3.all (good 3) = true := by decide +kernel
theorem lk4 : allP (LkP 4) cd4 := ⟨trivial, wd_278, trivial, wd_276, ⟨rfl, wd_299, gm_64, km_64⟩, trivial, wd_278, trivial, wd_276, trivial, trivial, ⟨rfl, wd_351, gm_54, km_54⟩, ⟨rfl, wd_315, gm_65, km_65⟩, trivial, trivial⟩
theorem ck4 : cd4.all (good 4) = true := by decide +kernel
theorem lk5 : allP (LkP 5) cd5 := ⟨trivial, wd_278, trivial, wd_276, ⟨rfl, wd_299, gm_64, km_64⟩, trivial, wd_278, trivial, wd_276, trivial, ⟨rfl, wd_372, gm_55, km_55⟩, ⟨rfl, wd_315, gm_65, km_65⟩, trivial, trivial⟩
theorem ck5 : cd5.all (good 5) = true := by decide +kernel
theorem lk6 : allP (LkP 6) cd6 := ⟨trivial, wd_278, trivial, wd_276, ⟨rfl, wd_299, gm_64, km_64⟩, trivial, wd_278, trivial, wd_279, trivial, wd_276, trivial, ⟨rfl, wd_384, gm_30, km_30⟩, ⟨rfl, wd_315, gm_65, km_65⟩, trivial, trivial⟩
theorem ck6 : cd6.all (good 6) = true := by decide +kernel
theorem lk7 : allP (LkP 7) cd7 := ⟨trivial, wd_278, trivial, wd_276, ⟨rfl, wd_299, gm_64, km_64⟩, trivial, wd_278, trivial, wd_276, ⟨rfl, wd_495, gm_56, km_56⟩, ⟨rfl, wd_315, gm_65, km_65⟩, trivial, trivial⟩
theorem ck7 : cd7.all (good 7) = true := by decide +kernel
theorem lk8 : allP (LkP 8) cd8 := ⟨trivial, wd_278, trivial, wd_276, ⟨rfl, wd_299, gm_64, km_64⟩, trivial, wd_278, trivial, wd_276, trivial, trivial, ⟨rfl, wd_507, gm_57, km_57⟩, ⟨rfl, wd_315, gm_65, km_65⟩, trivial, trivial⟩
theorem ck8 : cd8.all (good 8) = true := by decide +kernel
theorem lk9_0 : allP (LkP 9) cd9_0 := ⟨trivial, wd_276, trivial, ⟨rfl, wd_519, gm_39, km_39⟩, trivial, wd_322, trivial, trivial, trivial, trivial, wd_276, wd_123, trivial, trivial, trivial, trivial, wd_276, wd_126, trivial, trivial, trivial, trivial, wd_276, wd_129, trivial, trivial, trivial, trivial, wd_276, wd_132, trivial, trivial, trivial, trivial, wd_276, trivial, ⟨rfl, wd_520, gm_42, km_42⟩, trivial, trivial, trivial, trivial, trivial, trivial, wd_276, trivial, ⟨rfl, wd_521, gm_45, km_45⟩, trivial, trivial, wd_276, wd_134, trivial⟩
theorem ck9_0 : cd9_0.all (good 9) = true := by decide +kernel
theorem lk9_1 : allP (LkP 9) cd9_1 := ⟨trivial, trivial, trivial, trivial, wd_276, wd_150, trivial, ⟨rfl, wd_522, gm_90, km_90⟩, trivial, trivial, trivial, trivial, trivial, wd_322, trivial, trivial⟩
theorem ck9_1 : cd9_1.all (good 9) = true := by decide +kernel
theorem lk9 : allP (LkP 9) cd9 := allP_app lk9_0 (lk9_1)
theorem ck9 : cd9.all (good 9) = true := all_app ck9_0 (ck9_1)
theorem lk10 : allP (LkP 10) cd10 := ⟨trivial, wd_276, trivial, ⟨rfl, wd_527, gm_38, km_38⟩, trivial, wd_322, trivial, trivial, trivial, trivial, wd_276, trivial, ⟨rfl, wd_528, gm_48, km_48⟩, trivial, trivial, wd_276, wd_114, trivial, trivial, trivial, trivial, wd_276, wd_116, trivial, trivial, trivial, trivial, wd_280, trivial, wd_276, trivial, ⟨rfl, wd_533, gm_80, km_80⟩, trivial, trivial, wd_276, ⟨rfl, wd_548, gm_41, km_41⟩, trivial, trivial, wd_276, wd_150, trivial, ⟨rfl, wd_549, gm_91, km_91⟩, trivial, trivial, trivial, trivial, trivial, wd_322, trivial, trivial⟩
theorem ck10 : cd10.all (good 10) = true := by decide +kernel
theorem lk11 : allP (LkP 11) cd11 := ⟨trivial, trivial, trivial, ⟨Or.inl wd_554, gm_24, km_24⟩, trivial, wd_322, trivial, trivial, wd_276, ⟨rfl, wd_548, gm_41, km_41⟩, trivial, wd_555, trivial, trivial, trivial, trivial, wd_276, wd_150, wd_88, trivial, trivial, wd_276, wd_150, wd_85, trivial, trivial, wd_276, wd_152, trivial, trivial, wd_276, wd_150, wd_91, trivial, trivial⟩
theorem ck11 : cd11.all (good 11) = true := by decide +kernel
theorem lk12 : allP (LkP 12) cd12 := ⟨trivial, trivial, wd_322, trivial, trivial, wd_276, ⟨rfl, wd_548, gm_41, km_41⟩, trivial, trivial, trivial, wd_276, wd_150, wd_85, trivial, wd_555, trivial, trivial, wd_276, wd_150, trivial, ⟨rfl, wd_560, gm_88, km_88⟩, trivial, trivial⟩
theorem ck12 : cd12.all (good 12) = true := by decide +kernel
theorem lk13 : allP (LkP 13) cd13 := ⟨trivial, wd_276, trivial, ⟨rfl, wd_527, gm_38, km_38⟩, trivial, trivial, wd_276, trivial, ⟨rfl, wd_519, gm_39, km_39⟩, trivial, wd_322, trivial, trivial, wd_276, trivial, ⟨rfl, wd_565, gm_49, km_49⟩, trivial, trivial, wd_276, trivial, trivial, ⟨rfl, wd_570, gm_46, km_46⟩, trivial, trivial, trivial, trivial, trivial, wd_555, trivial, trivial, wd_276, trivial, ⟨rfl, wd_521, gm_45, km_45⟩, trivial, trivial, trivial, trivial, ⟨Or.inl wd_571, gm_28, km_28⟩, trivial, trivial⟩
theorem ck13 : cd13.all (good 13) = true := by decide +kernel
theorem lk14 : allP (LkP 14) cd14 := ⟨trivial, trivial, trivial, ⟨Or.inl wd_554, gm_24, km_24⟩, trivial, wd_322, trivial, trivial, wd_276, ⟨rfl, wd_579, gm_40, km_40⟩, trivial, wd_580, trivial, trivial, wd_280, trivial, wd_276, ⟨rfl, wd_581, gm_82, km_82⟩, trivial, trivial, trivial, wd_280, wd_234, wd_88, trivial, trivial, wd_280, wd_234, wd_85, trivial, trivial, wd_280, wd_234, ⟨rfl, wd_598, gm_89, km_89⟩, trivial, wd_276, wd_139, trivial, trivial, trivial, trivial, trivial, trivial, wd_280, wd_234, ⟨rfl, wd_598, gm_89, km_89⟩, trivial, trivial⟩
theorem ck14 : cd14.all (good 14) = true := by decide +kernel
theorem lk15 : allP (LkP 15) cd15 := ⟨trivial, wd_280, trivial, wd_276, trivial, wd_276, wd_139, ⟨rfl, wd_533, gm_80, km_80⟩, trivial, trivial, wd_276, ⟨rfl, wd_548, gm_41, km_41⟩, trivial, trivial, wd_555, trivial, wd_555, trivial, trivial, wd_276, wd_150, wd_88, trivial, trivial, trivial, trivial⟩
theorem ck15 : cd15.all (good 15) = true := by decide +kernel
theorem lk16 : allP (LkP 16) cd16 := ⟨trivial, trivial, trivial, ⟨Or.inl wd_554, gm_24, km_24⟩, trivial, wd_322, trivial, trivial, wd_276, ⟨rfl, wd_579, gm_40, km_40⟩, trivial, wd_580, trivial, trivial, wd_276, trivial, wd_277, ⟨Or.inl wd_607, gm_37, km_37⟩, trivial, wd_279, trivial, wd_277, ⟨rfl, wd_608, gm_33, km_33⟩, trivial, trivial, trivial, trivial, trivial, trivial, wd_279, wd_214, wd_88, trivial, trivial, wd_279, wd_214, ⟨rfl, wd_598, gm_89, km_89⟩, trivial, trivial⟩
theorem ck16 : cd16.all (good 16) = true := by decide +kernel
theorem lk17 : allP (LkP 17) cd17 := ⟨trivial, trivial, trivial, ⟨Or.inl wd_554, gm_24, km_24⟩, trivial, wd_322, trivial, trivial, wd_276, trivial, wd_277, ⟨Or.inl wd_607, gm_37, km_37⟩, trivial, wd_279, trivial, wd_277, trivial, ⟨rfl, wd_384, gm_30, km_30⟩, trivial, trivial, ⟨Or.inl wd_613, gm_25, km_25⟩, trivial, trivial, trivial, trivial, trivial, trivial, trivial, trivial, wd_277, wd_148, trivial, trivial, trivial, wd_276, wd_148, trivial, trivial, trivial, trivial, trivial, wd_277, ⟨rfl, wd_548, gm_41, km_41⟩, trivial, trivial, wd_277, wd_150, wd_88, trivial, wd_555, trivial, trivial, wd_277, ⟨rfl, wd_614, gm_50, km_50⟩, trivial, trivial⟩
theorem ck17 : cd17.all (good 17) = true := by decide +kernel
theorem lk18_0 : allP (LkP 18) cd18_0 := ⟨trivial, trivial, trivial, ⟨Or.inl wd_554, gm_24, km_24⟩, trivial, trivial, wd_276, trivial, trivial, trivial, ⟨rfl, wd_619, gm_43, km_43⟩, trivial, trivial, trivial, trivial, wd_276, wd_112, trivial, trivial, wd_276, wd_120, trivial, trivial, wd_276, ⟨rfl, wd_620, gm_47, km_47⟩, trivial, trivial, wd_276, wd_145, trivial, trivial, wd_276, wd_148, trivial, trivial, trivial, wd_276, wd_148, trivial, trivial, trivial, trivial, wd_276, wd_148, trivial, trivial, trivial, trivial, trivial, wd_276, trivial⟩
theorem ck18_0 : cd18_0.all (good 18) = true := by decide +kernel
theorem lk18_1 : allP (LkP 18) cd18_1 := ⟨wd_148, trivial, trivial, trivial, trivial, wd_276, wd_148, trivial, trivial, trivial, trivial, wd_276, wd_148, trivial, trivial, trivial, trivial, wd_276, ⟨rfl, wd_614, gm_50, km_50⟩, trivial, trivial, wd_276, ⟨rfl, wd_621, gm_51, km_51⟩, trivial, trivial, wd_276, wd_139, trivial, trivial, wd_276, wd_141, trivial, trivial, wd_278, wd_199, trivial, trivial, wd_281, wd_248, trivial, wd_322, trivial, trivial⟩
theorem ck18_1 : cd18_1.all (good 18) = true := by decide +kernel
theorem lk18 : allP (LkP 18) cd18 := allP_app lk18_0 (lk18_1)
theorem ck18 : cd18.all (good 18) = true := all_app ck18_0 (ck18_1)
theorem lk19 : allP (LkP 19) cd19 := ⟨trivial, wd_278, trivial, wd_276, ⟨rfl, wd_629, gm_67, km_67⟩, trivial, trivial⟩
theorem ck19 : cd19.all (good 19) = true := by decide +kernel
theorem lk20 : allP (LkP 20) cd20 := ⟨trivial, wd_281, trivial, ⟨rfl, wd_638, gm_69, km_69⟩, trivial, trivial⟩
theorem ck20 : cd20.all (good 20) = true := by decide +kernel
theorem lk21 : allP (LkP 21) cd21 := ⟨trivial, wd_281, ⟨rfl, wd_649, gm_70, km_70⟩, trivial, trivial⟩
theorem ck21 : cd21.all (good 21) = true := by decide +kernel
theorem lk22 : allP (LkP 22) cd22 := ⟨trivial, trivial, trivial, ⟨Or.inl wd_554, gm_24, km_24⟩, trivial, wd_322, trivial, trivial, wd_276, trivial, wd_277, ⟨Or.inl wd_607, gm_37, km_37⟩, trivial, wd_281, trivial, wd_277, trivial, wd_279, ⟨rfl, wd_657, gm_71, km_71⟩, trivial, trivial, wd_281, wd_253, trivial, wd_555, trivial, trivial, trivial, trivial, wd_281, wd_255, trivial, trivial, wd_281, wd_253, trivial, trivial, wd_281, wd_257, trivial, trivial⟩
theorem ck22 : cd22.all (good 22) = true := by decide +kernel
theorem lk23 : allP (LkP 23) cd23 := ⟨trivial, wd_276, trivial, wd_277, ⟨Or.inl wd_607, gm_37, km_37⟩, trivial, wd_281, trivial, wd_277, trivial, wd_279, ⟨rfl, wd_657, gm_71, km_71⟩, trivial, trivial, wd_281, wd_253, trivial, wd_580, trivial, trivial, wd_278, trivial, wd_276, ⟨rfl, wd_299, gm_64, km_64⟩, trivial, wd_277, trivial, wd_276, ⟨Or.inl wd_607, gm_37, km_37⟩, trivial, wd_278, trivial, ⟨rfl, wd_315, gm_65, km_65⟩, trivial, trivial⟩
theorem ck23 : cd23.all (good 23) = true := by decide +kernel
theorem lk24 : allP (LkP 24) cd24 := ⟨trivial, trivial, trivial, trivial, trivial, trivial, trivial, trivial, trivial, trivial, trivial⟩
theorem ck24 : cd24.all (good 24) = true := by decide +kernel
theorem lk25 : allP (LkP 25) cd25 := ⟨trivial, wd_322, trivial, trivial, trivial, trivial, trivial, trivial⟩
theorem ck25 : cd25.all (good 25) = true := by decide +kernel
theorem lk26 : allP (LkP 26) cd26 := ⟨trivial, trivial, trivial, trivial, trivial, trivial, trivial, trivial, trivial, trivial, trivial, trivial⟩
theorem ck26 : cd26.all (good 26) = true := by decide +kernel
theorem lk27 : allP (LkP 27) cd27 := ⟨trivial, trivial, trivial, trivial, trivial, trivial, trivial, trivial, trivial, trivial, trivial, trivial, trivial, trivial, trivial, trivial, trivial, trivial, trivial, trivial⟩
theorem ck27 : cd27.all (good 27) = true := by decide +kernel
theorem lk28 : allP (LkP 28) cd28 := ⟨trivial, trivial, trivial, trivial, trivial, trivial, trivial, trivial, trivial, trivial, trivial, trivial, trivial, trivial, trivial, trivial, trivial, trivial, trivial, trivial, wd_574, trivial, trivial, trivial, trivial, trivial, trivial, trivial, trivial, trivial, trivial⟩
theorem ck28 : cd28.all (good 28) = true := by decide +kernel
theorem lk29 : allP (LkP 29) cd29 := ⟨trivial, wd_210, trivial, wd_211, trivial, ⟨rfl, Or.inr wd_212, gm_85, km_85⟩, ⟨wd_213, ⟨rfl, rfl, rfl⟩⟩, trivial, trivial, trivial, ⟨wd_215, ⟨rfl, rfl, rfl⟩⟩, trivial, trivial, trivial, ⟨wd_216, ⟨rfl, rfl, rfl⟩⟩, trivial, trivial⟩
theorem ck29 : cd29.all (good 29) = true := by decide +kernel
theorem lk30_0 : allP (LkP 30) cd30_0 := ⟨trivial, trivial, trivial, ⟨Or.inr wd_388, gm_24, km_24⟩, trivial, wd_389, trivial, trivial, ⟨rfl, wd_390, gm_40, km_40⟩, trivial, wd_394, trivial, trivial, wd_147, trivial, trivial, trivial, trivial, trivial, ⟨rfl, wd_395, gm_43, km_43⟩, trivial, trivial, trivial, trivial, trivial, trivial, trivial, ⟨rfl, wd_396, gm_31, km_31⟩, trivial, trivial, trivial, trivial, trivial, trivial, trivial, ⟨rfl, wd_400, gm_33, km_33⟩, trivial, trivial, trivial, wd_213, trivial, ⟨rfl, wd_450, gm_59, km_59⟩, trivial, trivial, trivial, trivial, trivial, wd_213, ⟨rfl, wd_463, gm_61, km_61⟩, ⟨rfl, wd_467, gm_32, km_32⟩, trivial⟩
theorem ck30_0 : cd30_0.all (good 30) = true := by decide +kernel
theorem lk30_1 : allP (LkP 30) cd30_1 := ⟨trivial, trivial, wd_213, ⟨rfl, wd_472, gm_60, km_60⟩, trivial, trivial, trivial, trivial, wd_215, ⟨rfl, wd_480, gm_62, km_62⟩, trivial, trivial, wd_144, trivial, trivial, ⟨wd_144, trivial⟩, trivial, trivial, trivial, wd_147, trivial, trivial, trivial, trivial, trivial, trivial⟩
theorem ck30_1 : cd30_1.all (good 30) = true := by decide +kernel
theorem lk30 : allP (LkP 30) cd30 := allP_app lk30_0 (lk30_1)
theorem ck30 : cd30.all (good 30) = true := all_app ck30_0 (ck30_1)
theorem lk31 : allP (LkP 31) cd31 := ⟨trivial, trivial, trivial, trivial, wd_215, trivial, trivial, trivial, wd_215, trivial, trivial, trivial, trivial, trivial, trivial, trivial⟩
theorem ck31 : cd31.all (good 31) = true := by decide +kernel
theorem lk32 : allP (LkP 32) cd32 := ⟨trivial, trivial, trivial, trivial, wd_215, trivial, trivial, trivial, wd_215, trivial, trivial, trivial, trivial, wd_213, trivial, ⟨rfl, wd_471, gm_90, km_90⟩, trivial, trivial, trivial, trivial, trivial, trivial, trivial, trivial, trivial, trivial⟩
theorem ck32 : cd32.all (good 32) = true := by decide +kernel
theorem lk33 : allP (LkP 33) cd33 := ⟨trivial, wd_213, ⟨rfl, wd_404, gm_86, km_86⟩, trivial, trivial, trivial, trivial, trivial, trivial, wd_213, ⟨rfl, wd_405, gm_89, km_89⟩, trivial, wd_138, trivial, trivial, trivial, ⟨rfl, wd_413, gm_34, km_34⟩, trivial, trivial, trivial, trivial, trivial, trivial, trivial, trivial, trivial, ⟨rfl, wd_432, gm_58, km_58⟩, ⟨rfl, wd_438, gm_35, km_35⟩, trivial, trivial, trivial, ⟨rfl, wd_442, gm_44, km_44⟩, trivial, trivial, wd_213, wd_87, trivial, trivial, trivial, trivial, ⟨rfl, wd_395, gm_43, km_43⟩, trivial, trivial, trivial, trivial, wd_213, trivial, trivial, trivial, trivial, wd_213, ⟨rfl, wd_405, gm_89, km_89⟩, ⟨rfl, wd_417, gm_46, km_46⟩, trivial, ⟨rfl, wd_446, gm_87, km_87⟩, trivial, trivial, trivial, trivial, trivial⟩
theorem ck33 : cd33.all (good 33) = true := by decide +kernel
theorem lk34 : allP (LkP 34) cd34 := ⟨trivial, wd_213, ⟨rfl, wd_405, gm_89, km_89⟩, trivial, trivial, trivial, trivial, trivial, trivial, trivial, wd_119, trivial, trivial, trivial, wd_216, trivial, trivial, trivial, wd_216, trivial, trivial, wd_213, trivial, trivial, trivial, ⟨rfl, wd_417, gm_46, km_46⟩, ⟨rfl, wd_421, gm_92, km_92⟩, trivial, trivial, trivial, ⟨rfl, wd_428, gm_45, km_45⟩, trivial, trivial, trivial, trivial, trivial, wd_216, trivial, trivial, trivial, trivial, trivial, trivial, trivial, trivial, trivial⟩
theorem ck34 : cd34.all (good 34) = true := by decide +kernel
theorem lk35 : allP (LkP 35) cd35 := ⟨trivial, trivial, trivial, trivial, trivial, trivial, wd_119, trivial, trivial, trivial, wd_216, trivial, trivial, trivial, trivial, wd_216, trivial, trivial, trivial, trivial, trivial, trivial, trivial, trivial, trivial, trivial, trivial, trivial, trivial⟩
theorem ck35 : cd35.all (good 35) = true := by decide +kernel
theorem lk36_0 : allP (LkP 36) cd36_0 := ⟨trivial, wd_75, trivial, trivial, ⟨wd_110, trivial⟩, trivial, trivial, trivial, ⟨wd_113, ⟨rfl, rfl, rfl⟩⟩, trivial, trivial, trivial, ⟨wd_115, ⟨rfl, rfl, rfl⟩⟩, trivial, trivial, ⟨wd_117, trivial⟩, trivial, trivial, trivial, ⟨wd_121, ⟨rfl, rfl, rfl⟩⟩, trivial, trivial, trivial, ⟨wd_124, ⟨rfl, rfl, rfl⟩⟩, trivial, trivial, trivial, ⟨wd_127, ⟨rfl, rfl, rfl⟩⟩, trivial, trivial, trivial, ⟨wd_130, ⟨rfl, rfl, rfl⟩⟩, trivial, trivial, trivial, ⟨wd_133, ⟨rfl, rfl, rfl⟩⟩, trivial, trivial, trivial, ⟨wd_135, ⟨rfl, rfl, rfl⟩⟩, trivial, trivial, ⟨wd_136, trivial⟩, trivial, trivial, ⟨wd_140, trivial⟩, trivial, trivial, trivial, ⟨wd_142, ⟨rfl, rfl, rfl⟩⟩, trivial⟩
theorem ck36_0 : cd36_0.all (good 36) = true := by decide +kernel
theorem lk36_1 : allP (LkP 36) cd36_1 := ⟨trivial, trivial, ⟨wd_143, trivial⟩, trivial, trivial, trivial, ⟨wd_146, ⟨rfl, rfl, rfl⟩⟩, trivial, wd_76, trivial, ⟨rfl, Or.inr wd_78, gm_85, km_85⟩, ⟨wd_149, ⟨rfl, rfl, rfl⟩⟩, trivial, trivial, ⟨wd_151, trivial⟩, wd_105, trivial, wd_142, ⟨Or.inr wd_107, gm_27, km_27⟩, trivial, trivial⟩
theorem ck36_1 : cd36_1.all (good 36) = true := by decide +kernel
theorem lk36 : allP (LkP 36) cd36 := allP_app lk36_0 (lk36_1)
theorem ck36 : cd36.all (good 36) = true := all_app ck36_0 (ck36_1)
theorem lk37_0 : allP (LkP 37) cd37_0 := ⟨trivial, trivial, trivial, trivial, trivial, trivial, trivial, wd_110, ⟨wd_110, trivial⟩, trivial, wd_113, trivial, wd_113, ⟨Or.inr wd_107, gm_27, km_27⟩, trivial, wd_115, trivial, wd_115, ⟨Or.inr wd_107, gm_27, km_27⟩, trivial, trivial, wd_117, ⟨wd_117, trivial⟩, trivial, wd_121, trivial, wd_121, ⟨Or.inr wd_107, gm_27, km_27⟩, trivial, wd_124, trivial, wd_124, ⟨Or.inr wd_107, gm_27, km_27⟩, trivial, wd_127, trivial, wd_127, ⟨Or.inr wd_107, gm_27, km_27⟩, trivial, wd_130, trivial, wd_130, ⟨Or.inr wd_107, gm_27, km_27⟩, trivial, wd_133, trivial, wd_133, ⟨Or.inr wd_107, gm_27, km_27⟩, trivial, wd_135, trivial⟩
theorem ck37_0 : cd37_0.all (good 37) = true := by decide +kernel
theorem lk37_1 : allP (LkP 37) cd37_1 := ⟨trivial, wd_135, ⟨Or.inr wd_107, gm_27, km_27⟩, trivial, trivial, wd_136, ⟨wd_136, trivial⟩, trivial, trivial, wd_140, ⟨wd_140, trivial⟩, trivial, wd_142, trivial, wd_142, ⟨Or.inr wd_107, gm_27, km_27⟩, trivial, trivial, wd_143, ⟨wd_143, trivial⟩, trivial, wd_146, trivial, wd_146, ⟨Or.inr wd_107, gm_27, km_27⟩, trivial, wd_149, trivial, wd_149, ⟨Or.inl wd_306, gm_93, km_93⟩, trivial, trivial, wd_151, ⟨wd_151, trivial⟩, trivial, trivial⟩
theorem ck37_1 : cd37_1.all (good 37) = true := by decide +kernel
theorem lk37 : allP (LkP 37) cd37 := allP_app lk37_0 (lk37_1)
theorem ck37 : cd37.all (good 37) = true := all_app ck37_0 (ck37_1)
theorem lk38 : allP (LkP 38) cd38 := ⟨trivial, trivial, trivial, trivial, wd_110, trivial, trivial, trivial, trivial, trivial, trivial, trivial, trivial, trivial⟩
theorem ck38 : cd38.all (good 38) = true := by decide +kernel
theorem lk39 : allP (LkP 39) cd39 := ⟨trivial, trivial, trivial, trivial, wd_117, trivial, trivial, trivial, trivial, trivial, trivial, trivial, trivial, trivial⟩
theorem ck39 : cd39.all (good 39) = true := by decide +kernel
theorem lk40 : allP (LkP 40) cd40 := ⟨trivial, wd_110, trivial, trivial, trivial, trivial, trivial, trivial, trivial⟩
theorem ck40 : cd40.all (good 40) = true := by decide +kernel
theorem lk41 : allP (LkP 41) cd41 := ⟨trivial, wd_149, wd_84, trivial, trivial, trivial, trivial, trivial, trivial⟩
theorem ck41 : cd41.all (good 41) = true := by decide +kernel
theorem lk42 : allP (LkP 42) cd42 := ⟨trivial, trivial, ⟨rfl, wd_355, gm_39, km_39⟩, trivial, trivial, wd_135, trivial, trivial, trivial, trivial, trivial, trivial, trivial, trivial, trivial⟩
theorem ck42 : cd42.all (good 42) = true := by decide +kernel
theorem lk43 : allP (LkP 43) cd43 := ⟨trivial, trivial, trivial, trivial, wd_142, trivial, trivial, trivial, wd_142, trivial, trivial, trivial, trivial, trivial, trivial⟩
theorem ck43 : cd43.all (good 43) = true := by decide +kernel
theorem lk44 : allP (LkP 44) cd44 := ⟨trivial, trivial, ⟨rfl, wd_355, gm_39, km_39⟩, trivial, trivial, wd_127, trivial, trivial, trivial, trivial, trivial, trivial⟩
theorem ck44 : cd44.all (good 44) = true := by decide +kernel
theorem lk45 : allP (LkP 45) cd45 := ⟨trivial, trivial, ⟨rfl, wd_355, gm_39, km_39⟩, trivial, trivial, wd_127, trivial, trivial, trivial, trivial, trivial, trivial, trivial, wd_130, trivial, trivial, trivial, trivial, trivial, wd_127, trivial, trivial, trivial, trivial, trivial, trivial, trivial⟩
theorem ck45 : cd45.all (good 45) = true := by decide +kernel
theorem lk46 : allP (LkP 46) cd46 := ⟨trivial, trivial, ⟨rfl, wd_355, gm_39, km_39⟩, trivial, trivial, wd_135, trivial, trivial, trivial, trivial, trivial, trivial, trivial, wd_121, trivial, trivial, trivial, trivial, trivial, wd_124, trivial, trivial, trivial, trivial, wd_124, trivial, trivial, trivial, trivial, trivial, wd_121, trivial, trivial, trivial, trivial, trivial, trivial⟩
theorem ck46 : cd46.all (good 46) = true := by decide +kernel
theorem lk47 : allP (LkP 47) cd47 := ⟨trivial, trivial, trivial, trivial, trivial, trivial, wd_117, trivial, trivial, trivial, trivial, ⟨rfl, wd_359, gm_42, km_42⟩, trivial, trivial, trivial, trivial, trivial, trivial, trivial, trivial, trivial, trivial, trivial⟩
theorem ck47 : cd47.all (good 47) = true := by decide +kernel
theorem lk48 : allP (LkP 48) cd48 := ⟨trivial, trivial, trivial, trivial, trivial, trivial, wd_117, trivial, trivial, trivial, trivial, trivial, ⟨rfl, wd_532, gm_46, km_46⟩, trivial, trivial, trivial, trivial, trivial, trivial, trivial, trivial, trivial, trivial, trivial, trivial⟩
theorem ck48 : cd48.all (good 48) = true := by decide +kernel
theorem lk49 : allP (LkP 49) cd49 := ⟨trivial, trivial, trivial, trivial, trivial, trivial, wd_117, trivial, trivial, trivial, trivial, trivial, ⟨rfl, wd_532, gm_46, km_46⟩, trivial, trivial, trivial, trivial, trivial, trivial, ⟨rfl, wd_569, gm_45, km_45⟩, trivial, trivial, trivial, trivial, trivial, trivial, trivial⟩
theorem ck49 : cd49.all (good 49) = true := by decide +kernel
theorem lk50 : allP (LkP 50) cd50 := ⟨trivial, trivial, trivial, trivial, trivial, trivial, wd_117, trivial, trivial, trivial, wd_130, trivial, trivial, trivial, trivial, wd_130, trivial, trivial, trivial, trivial, trivial, trivial, trivial, trivial, trivial⟩
theorem ck50 : cd50.all (good 50) = true := by decide +kernel
theorem lk51 : allP (LkP 51) cd51 := ⟨trivial, trivial, trivial, trivial, trivial, trivial, wd_117, trivial, trivial, trivial, wd_130, trivial, trivial, trivial, trivial, wd_130, trivial, trivial, wd_485, trivial, trivial, trivial, trivial, trivial, trivial⟩
theorem ck51 : cd51.all (good 51) = true := by decide +kernel
theorem lk52 : allP (LkP 52) cd52 := ⟨trivial, wd_110, trivial, trivial, wd_314, trivial, trivial, trivial, wd_110, trivial, trivial, ⟨wd_110, trivial⟩, trivial, wd_110, trivial, trivial, trivial, trivial⟩
theorem ck52 : cd52.all (good 52) = true := by decide +kernel
theorem lk53 : allP (LkP 53) cd53 := ⟨trivial, trivial, ⟨rfl, wd_335, gm_38, km_38⟩, trivial, trivial, trivial, ⟨rfl, wd_335, gm_38, km_38⟩, trivial, trivial, trivial, trivial, trivial, trivial, trivial, ⟨Or.inr wd_339, gm_24, km_24⟩, trivial, wd_342, trivial, trivial, wd_117, trivial, trivial, wd_117, trivial, trivial, wd_314, trivial, trivial, wd_117, trivial, trivial, wd_121, trivial, trivial, trivial, trivial, wd_124, trivial, trivial, trivial, trivial, wd_127, trivial, trivial, trivial, trivial, wd_130, trivial, trivial, trivial, ⟨rfl, wd_343, gm_43, km_43⟩, trivial, trivial, trivial, wd_117, trivial, trivial, ⟨wd_117, trivial⟩, trivial, trivial, trivial⟩
theorem ck53 : cd53.all (good 53) = true := by decide +kernel
theorem lk54 : allP (LkP 54) cd54 := ⟨trivial, trivial, ⟨rfl, wd_355, gm_39, km_39⟩, trivial, wd_342, trivial, trivial, trivial, ⟨rfl, wd_359, gm_42, km_42⟩, trivial, trivial, wd_363, trivial, trivial, wd_135, trivial, trivial, trivial, trivial, trivial, trivial, trivial, trivial, ⟨rfl, wd_364, gm_47, km_47⟩, trivial, trivial⟩
theorem ck54 : cd54.all (good 54) = true := by decide +kernel
theorem lk55 : allP (LkP 55) cd55 := ⟨trivial, trivial, trivial, trivial, ⟨rfl, wd_335, gm_38, km_38⟩, trivial, wd_342, trivial, trivial, trivial, wd_136, trivial, wd_363, trivial, trivial, wd_136, trivial, trivial, trivial, ⟨wd_136, trivial⟩, trivial, wd_149, ⟨rfl, wd_376, gm_86, km_86⟩, trivial, trivial, trivial⟩
theorem ck55 : cd55.all (good 55) = true := by decide +kernel
theorem lk56 : allP (LkP 56) cd56 := ⟨trivial, ⟨rfl, wd_499, gm_50, km_50⟩, trivial, trivial, trivial, trivial, trivial, wd_117, trivial, trivial, trivial, wd_130, trivial, trivial, trivial, wd_130, trivial, trivial, trivial, ⟨rfl, wd_343, gm_43, km_43⟩, trivial, trivial, trivial, trivial, wd_149, ⟨rfl, wd_376, gm_86, km_86⟩, trivial, trivial, ⟨rfl, wd_499, gm_50, km_50⟩, trivial, trivial, trivial⟩
theorem ck56 : cd56.all (good 56) = true := by decide +kernel
theorem lk57 : allP (LkP 57) cd57 := ⟨trivial, trivial, trivial, ⟨Or.inr wd_339, gm_24, km_24⟩, trivial, trivial, wd_511, trivial, trivial, wd_513, trivial, trivial, ⟨Or.inr wd_339, gm_24, km_24⟩, trivial, wd_342, trivial, trivial, wd_142, trivial, trivial, trivial, trivial, wd_142, trivial, trivial, trivial, trivial, trivial, trivial⟩
theorem ck57 : cd57.all (good 57) = true := by decide +kernel
theorem lk58 : allP (LkP 58) cd58 := ⟨trivial, trivial, trivial, trivial, trivial, trivial, trivial, wd_140, trivial, wd_436, trivial, wd_437, trivial, trivial, ⟨wd_140, trivial⟩, trivial, wd_140, trivial, trivial, trivial, trivial⟩
theorem ck58 : cd58.all (good 58) = true := by decide +kernel
theorem lk59_0 : allP (LkP 59) cd59_0 := ⟨trivial, trivial, trivial, trivial, wd_133, trivial, trivial, trivial, wd_133, trivial, trivial, trivial, trivial, trivial, ⟨rfl, wd_454, gm_90, km_90⟩, trivial, trivial, trivial, trivial, trivial, trivial, trivial, trivial, trivial, trivial, trivial, trivial, wd_113, trivial, trivial, trivial, wd_113, trivial, trivial, trivial, trivial, trivial, ⟨rfl, wd_458, gm_91, km_91⟩, trivial, trivial, trivial, trivial, trivial, trivial, trivial, trivial, trivial, trivial, trivial, trivial, trivial⟩
theorem ck59_0 : cd59_0.all (good 59) = true := by decide +kernel
theorem lk59_1 : allP (LkP 59) cd59_1 := ⟨wd_146, trivial, trivial, trivial, wd_146, trivial, trivial, trivial, trivial, trivial, trivial, trivial, ⟨rfl, wd_462, gm_89, km_89⟩, trivial, trivial, trivial, trivial, trivial, trivial, ⟨rfl, wd_335, gm_38, km_38⟩, trivial, trivial, wd_115, trivial, trivial, trivial, trivial, trivial, trivial, trivial, trivial⟩
theorem ck59_1 : cd59_1.all (good 59) = true := by decide +kernel
theorem lk59 : allP (LkP 59) cd59 := allP_app lk59_0 (lk59_1)
theorem ck59 : cd59.all (good 59) = true := all_app ck59_0 (ck59_1)
theorem lk60 : allP (LkP 60) cd60 := ⟨trivial, ⟨rfl, wd_476, gm_41, km_41⟩, trivial, trivial, wd_89, trivial, wd_149, wd_89, trivial, trivial, trivial, wd_149, ⟨Or.inl wd_306, gm_93, km_93⟩, trivial, trivial, wd_143, ⟨wd_151, trivial⟩, trivial, trivial⟩
theorem ck60 : cd60.all (good 60) = true := by decide +kernel
theorem lk61 : allP (LkP 61) cd61 := ⟨trivial, wd_89, trivial, trivial, trivial, trivial, trivial, trivial, ⟨rfl, wd_343, gm_43, km_43⟩, trivial, wd_89, trivial, trivial, trivial⟩
theorem ck61 : cd61.all (good 61) = true := by decide +kernel
theorem lk62_0 : allP (LkP 62) cd62_0 := ⟨trivial, ⟨rfl, wd_476, gm_41, km_41⟩, trivial, trivial, trivial, ⟨rfl, wd_343, gm_43, km_43⟩, trivial, trivial, wd_149, ⟨rfl, wd_484, gm_61, km_61⟩, trivial, trivial, trivial, trivial, trivial, trivial, trivial, trivial, wd_117, trivial, trivial, trivial, wd_130, trivial, trivial, trivial, trivial, trivial, trivial, trivial, wd_130, trivial, trivial, trivial, wd_130, trivial, trivial, trivial, trivial, ⟨rfl, wd_343, gm_43, km_43⟩, trivial, trivial, trivial, trivial, trivial, trivial, trivial, trivial, trivial, trivial, trivial⟩
theorem ck62_0 : cd62_0.all (good 62) = true := by decide +kernel
theorem lk62_1 : allP (LkP 62) cd62_1 := ⟨trivial, wd_149, trivial, ⟨rfl, wd_454, gm_90, km_90⟩, trivial, trivial, trivial, trivial, trivial, trivial, trivial, wd_130, trivial, trivial, trivial, trivial, ⟨rfl, wd_343, gm_43, km_43⟩, wd_485, trivial, trivial, ⟨rfl, wd_343, gm_43, km_43⟩, wd_488, trivial, trivial, trivial, trivial, trivial⟩
theorem ck62_1 : cd62_1.all (good 62) = true := by decide +kernel
theorem lk62 : allP (LkP 62) cd62 := allP_app lk62_0 (lk62_1)
theorem ck62 : cd62.all (good 62) = true := all_app ck62_0 (ck62_1)
theorem lk63 : allP (LkP 63) cd63 := ⟨trivial, wd_193, trivial, trivial, wd_194, ⟨wd_197, ⟨rfl, rfl, rfl⟩⟩, trivial, trivial, ⟨wd_198, trivial⟩, trivial, trivial, trivial, trivial, wd_197, trivial, trivial, trivial, wd_197, trivial, wd_194, trivial, ⟨rfl, Or.inl wd_196, gm_36, km_36⟩, trivial, trivial, trivial, trivial, trivial⟩
theorem ck63 : cd63.all (good 63) = true := by decide +kernel
theorem lk64 : allP (LkP 64) cd64 := ⟨trivial, wd_198, trivial, trivial, wd_198, trivial, wd_197, trivial, trivial, trivial, trivial, wd_197, trivial, wd_198, trivial, ⟨Or.inl wd_303, gm_37, km_37⟩, trivial, trivial⟩
theorem ck64 : cd64.all (good 64) = true := by decide +kernel
theorem lk65 : allP (LkP 65) cd65 := ⟨trivial, ⟨Or.inr wd_319, gm_25, km_25⟩, trivial, trivial, trivial, wd_198, trivial, trivial, ⟨wd_198, trivial⟩, trivial, wd_198, trivial, trivial, trivial, ⟨rfl, wd_323, gm_66, km_66⟩, trivial, trivial, trivial⟩
theorem ck65 : cd65.all (good 65) = true := by decide +kernel
theorem lk66 : allP (LkP 66) cd66 := ⟨trivial, wd_197, trivial, trivial, trivial, trivial, trivial, trivial, trivial, wd_197, trivial, trivial, trivial, wd_197, trivial, trivial, trivial, trivial, wd_197, trivial, trivial, trivial, trivial, trivial, trivial, wd_197, trivial, wd_197, trivial, trivial, trivial, trivial, trivial, trivial, trivial, wd_198, trivial, trivial, ⟨wd_198, trivial⟩, trivial, trivial⟩
theorem ck66 : cd66.all (good 66) = true := by decide +kernel
theorem lk67 : allP (LkP 67) cd67 := ⟨trivial, wd_198, trivial, trivial, trivial, wd_198, trivial, wd_197, trivial, trivial, wd_633, trivial, trivial, trivial, wd_198, trivial, trivial, ⟨wd_198, trivial⟩, trivial, wd_197, trivial, wd_198, trivial, trivial, ⟨Or.inl wd_303, gm_37, km_37⟩, trivial, wd_198, trivial, trivial⟩
theorem ck67 : cd67.all (good 67) = true := by decide +kernel
theorem lk68 : allP (LkP 68) cd68 := ⟨trivial, wd_245, trivial, trivial, trivial, ⟨wd_246, ⟨rfl, rfl, rfl⟩⟩, trivial, trivial, ⟨wd_247, trivial⟩, trivial, trivial, ⟨wd_249, trivial⟩, trivial, trivial, trivial, ⟨wd_250, ⟨rfl, rfl, rfl⟩⟩, trivial, trivial, ⟨wd_251, trivial⟩, trivial, trivial, ⟨wd_252, trivial⟩, trivial, trivial, ⟨wd_254, trivial⟩, trivial, trivial, ⟨wd_256, trivial⟩, trivial, trivial⟩
theorem ck68 : cd68.all (good 68) = true := by decide +kernel
theorem lk69 : allP (LkP 69) cd69 := ⟨trivial, trivial, trivial, ⟨Or.inr wd_642, gm_24, km_24⟩, trivial, wd_643, trivial, trivial, wd_247, trivial, trivial, wd_247, trivial, wd_246, trivial, trivial, wd_644, trivial, trivial, wd_246, trivial, wd_247, trivial, trivial, trivial, trivial, trivial, wd_247, trivial, trivial, ⟨wd_247, trivial⟩, trivial, wd_247, trivial, trivial⟩
theorem ck69 : cd69.all (good 69) = true := by decide +kernel
theorem lk70 : allP (LkP 70) cd70 := ⟨trivial, wd_247, trivial, trivial, trivial, ⟨wd_247, trivial⟩, trivial, trivial, trivial⟩
theorem ck70 : cd70.all (good 70) = true := by decide +kernel
theorem lk71 : allP (LkP 71) cd71 := ⟨trivial, trivial, ⟨wd_252, trivial⟩, trivial, trivial, trivial, trivial, trivial, trivial, wd_247, trivial, trivial, trivial, trivial, trivial, trivial, ⟨rfl, wd_661, gm_74, km_74⟩, trivial, trivial, trivial, trivial, trivial, wd_251, trivial, trivial, ⟨rfl, wd_680, gm_72, km_72⟩, trivial, trivial, trivial, trivial, trivial, ⟨rfl, wd_684, gm_73, km_73⟩, trivial, trivial, ⟨Or.inr wd_693, gm_25, km_25⟩, trivial, trivial, trivial, trivial, trivial, ⟨rfl, wd_680, gm_72, km_72⟩, trivial, trivial, trivial, trivial, wd_251, trivial, trivial, trivial, trivial, trivial⟩
theorem ck71 : cd71.all (good 71) = true := by decide +kernel
theorem lk72 : allP (LkP 72) cd72 := ⟨trivial, trivial, ⟨wd_254, trivial⟩, trivial, trivial, ⟨wd_252, trivial⟩, trivial, trivial, ⟨wd_256, trivial⟩, trivial, trivial⟩
theorem ck72 : cd72.all (good 72) = true := by decide +kernel
theorem lk73 : allP (LkP 73) cd73 := ⟨trivial, wd_249, trivial, trivial, trivial, wd_250, trivial, trivial, trivial, wd_250, trivial, trivial, trivial, wd_250, trivial, trivial, ⟨rfl, wd_688, gm_53, km_53⟩, trivial, trivial, trivial, wd_250, trivial, trivial, trivial, ⟨rfl, wd_689, gm_54, km_54⟩, trivial, trivial, trivial, wd_250, trivial, trivial, trivial, ⟨rfl, wd_689, gm_54, km_54⟩, trivial, trivial, trivial, wd_250, trivial, trivial, ⟨rfl, wd_690, gm_55, km_55⟩, trivial, trivial, trivial, wd_250, trivial, trivial, trivial, wd_250, trivial, trivial, ⟨rfl, wd_691, gm_57, km_57⟩, trivial, trivial, trivial, trivial, wd_250, trivial, trivial, ⟨rfl, wd_692, gm_30, km_30⟩, trivial, trivial⟩
theorem ck73 : cd73.all (good 73) = true := by decide +kernel
theorem lk74 : allP (LkP 74) cd74 := ⟨trivial, trivial, ⟨wd_251, trivial⟩, trivial, trivial, ⟨rfl, wd_665, gm_76, km_76⟩, ⟨wd_249, trivial⟩, trivial, wd_249, ⟨Or.inl wd_669, gm_75, km_75⟩, trivial, trivial, trivial, trivial, trivial, trivial, trivial, wd_251, trivial, trivial, ⟨wd_251, trivial⟩, trivial, trivial, trivial, trivial, trivial, trivial, trivial, trivial, trivial, ⟨rfl, wd_672, gm_77, km_77⟩, trivial, trivial, trivial, trivial, trivial, ⟨rfl, wd_676, gm_78, km_78⟩, trivial, trivial, trivial, trivial, trivial, trivial, trivial, ⟨rfl, wd_672, gm_77, km_77⟩, trivial, trivial⟩
theorem ck74 : cd74.all (good 74) = true := by decide +kernel
theorem lk75 : allP (LkP 75) cd75 := ⟨trivial, trivial, trivial, trivial, trivial, trivial, trivial, trivial, trivial, trivial, trivial⟩
theorem ck75 : cd75.all (good 75) = true := by decide +kernel
theorem lk76 : allP (LkP 76) cd76 := ⟨trivial, wd_251, trivial, trivial, wd_251, trivial, wd_247, trivial, trivial, wd_251, trivial, wd_246, trivial, trivial, trivial, wd_246, trivial, wd_251, trivial, trivial, trivial, trivial, trivial⟩
theorem ck76 : cd76.all (good 76) = true := by decide +kernel
theorem lk77 : allP (LkP 77) cd77 := ⟨trivial, ⟨rfl, wd_665, gm_76, km_76⟩, trivial, trivial, trivial, trivial, trivial, trivial, wd_251, trivial, trivial, ⟨wd_251, trivial⟩, trivial, trivial, trivial⟩
theorem ck77 : cd77.all (good 77) = true := by decide +kernel
theorem lk78 : allP (LkP 78) cd78 := ⟨trivial, trivial, trivial, trivial, trivial, trivial, trivial, trivial, ⟨rfl, wd_665, gm_76, km_76⟩, trivial, trivial, trivial, ⟨rfl, wd_665, gm_76, km_76⟩, trivial, trivial, trivial, trivial, trivial, trivial, ⟨rfl, wd_665, gm_76, km_76⟩, trivial, trivial, trivial, trivial, trivial, trivial, trivial, wd_251, trivial, trivial, ⟨wd_251, trivial⟩, trivial, trivial, trivial, trivial, trivial, wd_250, trivial, trivial, trivial, wd_250, trivial, trivial, trivial, trivial, trivial, trivial, trivial, trivial, trivial, trivial⟩
theorem ck78 : cd78.all (good 78) = true := by decide +kernel
theorem lk79 : allP (LkP 79) cd79 := ⟨trivial, wd_229, trivial, trivial, trivial, ⟨wd_232, ⟨rfl, rfl, rfl⟩⟩, trivial, wd_230, trivial, ⟨rfl, Or.inr wd_231, gm_85, km_85⟩, ⟨wd_233, ⟨rfl, rfl, rfl⟩⟩, trivial, trivial⟩
theorem ck79 : cd79.all (good 79) = true := by decide +kernel
theorem lk80_0 : allP (LkP 80) cd80_0 := ⟨trivial, trivial, ⟨rfl, wd_537, gm_38, km_38⟩, trivial, wd_538, trivial, trivial, trivial, trivial, trivial, wd_232, trivial, trivial, trivial, wd_232, trivial, trivial, trivial, trivial, trivial, wd_539, trivial, trivial, trivial, trivial, trivial, trivial, trivial, wd_111, trivial, trivial, trivial, trivial, trivial, wd_118, trivial, trivial, trivial, trivial, ⟨rfl, wd_540, gm_81, km_81⟩, trivial, trivial, trivial, trivial, trivial, trivial, wd_232, trivial, trivial, trivial, trivial⟩
theorem ck80_0 : cd80_0.all (good 80) = true := by decide +kernel
theorem lk80_1 : allP (LkP 80) cd80_1 := ⟨wd_232, trivial, trivial, wd_539, trivial, trivial, wd_232, trivial, trivial, trivial, wd_538, trivial, trivial⟩
theorem ck80_1 : cd80_1.all (good 80) = true := by decide +kernel
theorem lk80 : allP (LkP 80) cd80 := allP_app lk80_0 (lk80_1)
theorem ck80 : cd80.all (good 80) = true := all_app ck80_0 (ck80_1)
theorem lk81_0 : allP (LkP 81) cd81_0 := ⟨trivial, trivial, ⟨rfl, wd_544, gm_39, km_39⟩, trivial, trivial, trivial, ⟨rfl, wd_545, gm_42, km_42⟩, trivial, trivial, trivial, wd_122, trivial, trivial, trivial, trivial, wd_125, trivial, trivial, trivial, trivial, trivial, trivial, wd_232, trivial, trivial, trivial, ⟨Or.inr wd_546, gm_24, km_24⟩, trivial, trivial, trivial, trivial, wd_232, trivial, trivial, trivial, ⟨Or.inr wd_546, gm_24, km_24⟩, trivial, trivial, wd_232, trivial, trivial, wd_232, trivial, trivial, trivial, wd_232, trivial, trivial, trivial, wd_128, trivial⟩
theorem ck81_0 : cd81_0.all (good 81) = true := by decide +kernel
theorem lk81_1 : allP (LkP 81) cd81_1 := ⟨trivial, trivial, trivial, wd_547, trivial, trivial, wd_232, trivial, trivial, wd_232, trivial, trivial, trivial, wd_232, trivial, trivial, trivial, wd_128, trivial, trivial, trivial, wd_547, trivial, trivial, trivial⟩
theorem ck81_1 : cd81_1.all (good 81) = true := by decide +kernel
theorem lk81 : allP (LkP 81) cd81 := allP_app lk81_0 (lk81_1)
theorem ck81 : cd81.all (good 81) = true := all_app ck81_0 (ck81_1)
theorem lk82 : allP (LkP 82) cd82 := ⟨trivial, wd_233, ⟨rfl, wd_585, gm_86, km_86⟩, trivial, trivial, trivial, trivial, trivial, trivial, wd_233, ⟨rfl, wd_586, gm_89, km_89⟩, trivial, wd_137, trivial, trivial, trivial, ⟨rfl, wd_587, gm_83, km_83⟩, trivial, trivial, trivial, trivial, trivial, trivial, wd_233, trivial, trivial, trivial, trivial, wd_233, ⟨rfl, wd_586, gm_89, km_89⟩, ⟨rfl, wd_591, gm_46, km_46⟩, trivial, trivial, ⟨rfl, wd_596, gm_44, km_44⟩, ⟨rfl, wd_597, gm_87, km_87⟩, trivial, trivial, trivial, trivial⟩
theorem ck82 : cd82.all (good 82) = true := by decide +kernel
theorem lk83 : allP (LkP 83) cd83 := ⟨trivial, wd_233, ⟨rfl, wd_586, gm_89, km_89⟩, trivial, trivial, trivial, trivial, trivial, trivial, trivial, wd_118, trivial, trivial, wd_233, trivial, trivial, trivial, ⟨rfl, wd_591, gm_46, km_46⟩, ⟨rfl, wd_592, gm_92, km_92⟩, trivial, trivial, trivial, trivial, trivial, trivial, trivial, trivial, trivial, ⟨Or.inl wd_593, gm_84, km_84⟩, trivial, trivial, trivial, trivial, trivial, trivial, trivial, trivial⟩
theorem ck83 : cd83.all (good 83) = true := by decide +kernel
theorem lk84 : allP (LkP 84) cd84 := ⟨trivial, trivial, ⟨rfl, wd_544, gm_39, km_39⟩, trivial, trivial, trivial, ⟨rfl, wd_544, gm_39, km_39⟩, trivial, trivial, trivial, trivial, wd_131, trivial, trivial, trivial, wd_131, trivial, trivial, trivial, trivial, wd_131, trivial, trivial, trivial, wd_131, trivial, trivial, trivial, trivial, trivial, trivial, trivial, trivial, wd_128, trivial, trivial, trivial, wd_128, trivial, trivial, trivial, trivial, trivial, trivial, trivial, trivial⟩
theorem ck84 : cd84.all (good 84) = true := by decide +kernel
theorem lk85 : allP (LkP 85) cd85 := ⟨trivial, wd_81, trivial, trivial, trivial, ⟨wd_82, ⟨rfl, rfl, rfl⟩⟩, trivial, trivial, ⟨wd_83, trivial⟩, trivial, trivial, ⟨wd_86, trivial⟩, trivial, trivial, ⟨wd_90, trivial⟩, trivial, trivial, ⟨wd_92, trivial⟩, trivial, trivial⟩
theorem ck85 : cd85.all (good 85) = true := by decide +kernel
theorem lk86 : allP (LkP 86) cd86 := ⟨trivial, trivial, ⟨wd_83, trivial⟩, trivial, trivial, ⟨wd_86, trivial⟩, trivial, trivial, ⟨wd_90, trivial⟩, trivial, trivial, ⟨wd_92, trivial⟩, trivial, trivial⟩
theorem ck86 : cd86.all (good 86) = true := by decide +kernel
theorem lk87 : allP (LkP 87) cd87 := ⟨trivial, wd_83, trivial, trivial, wd_83, trivial, trivial, trivial, wd_82, trivial, trivial, trivial, trivial, trivial, wd_83, trivial, trivial, ⟨wd_83, trivial⟩, trivial, wd_82, trivial, wd_83, trivial, trivial, trivial, trivial, wd_86, trivial, trivial, ⟨wd_86, trivial⟩, trivial, trivial, wd_90, trivial, trivial, trivial, trivial, ⟨wd_90, trivial⟩, trivial, trivial, wd_92, trivial, trivial, trivial, trivial, ⟨wd_92, trivial⟩, trivial, trivial⟩
theorem ck87 : cd87.all (good 87) = true := by decide +kernel
theorem lk88 : allP (LkP 88) cd88 := ⟨trivial, trivial, trivial, trivial, wd_82, trivial, trivial, trivial, wd_82, trivial, trivial, trivial, trivial, trivial, trivial⟩
theorem ck88 : cd88.all (good 88) = true := by decide +kernel
theorem lk89 : allP (LkP 89) cd89 := ⟨trivial, trivial, wd_83, ⟨rfl, wd_409, gm_88, km_88⟩, trivial, trivial⟩
theorem ck89 : cd89.all (good 89) = true := by decide +kernel
theorem lk90 : allP (LkP 90) cd90 := ⟨trivial, wd_90, trivial, ⟨Or.inr wd_425, gm_26, km_26⟩, trivial, trivial⟩
theorem ck90 : cd90.all (good 90) = true := by decide +kernel
theorem lk91 : allP (LkP 91) cd91 := ⟨trivial, wd_92, trivial, ⟨Or.inr wd_425, gm_26, km_26⟩, trivial, trivial⟩
theorem ck91 : cd91.all (good 91) = true := by decide +kernel
theorem lk92 : allP (LkP 92) cd92 := ⟨trivial, trivial, trivial, trivial, wd_92, trivial, ⟨Or.inr wd_425, gm_26, km_26⟩, trivial, trivial, trivial, trivial, trivial, trivial⟩
theorem ck92 : cd92.all (good 92) = true := by decide +kernel
theorem lk93 : allP (LkP 93) cd93 := ⟨trivial, trivial, trivial, trivial, trivial, trivial, wd_82, trivial, wd_82, ⟨Or.inr wd_309, gm_27, km_27⟩, trivial, trivial, wd_83, ⟨wd_83, trivial⟩, trivial, trivial, wd_86, ⟨wd_86, trivial⟩, trivial, trivial, wd_90, ⟨wd_90, trivial⟩, trivial, trivial, wd_92, ⟨wd_92, trivial⟩, trivial, trivial⟩
theorem ck93 : cd93.all (good 93) = true := by decide +kernel
theorem lk94_0 : allP (LkP 94) cd94_0 := ⟨trivial, wd_703, trivial, trivial, trivial, ⟨wd_704, ⟨rfl, rfl, rfl⟩⟩, trivial, trivial, trivial, ⟨wd_705, ⟨rfl, rfl, rfl⟩⟩, trivial, trivial, trivial, ⟨wd_706, ⟨rfl, rfl, rfl⟩⟩, trivial, trivial, trivial, ⟨wd_707, ⟨rfl, rfl, rfl⟩⟩, trivial, trivial, trivial, ⟨wd_709, ⟨rfl, rfl, rfl⟩⟩, trivial, trivial, trivial, ⟨wd_711, ⟨rfl, rfl, rfl⟩⟩, trivial, trivial, trivial, ⟨wd_718, ⟨rfl, rfl, rfl⟩⟩, trivial, trivial, trivial, ⟨wd_719, ⟨rfl, rfl, rfl⟩⟩, trivial, trivial, trivial, ⟨wd_720, ⟨rfl, rfl, rfl⟩⟩, trivial, trivial, trivial, ⟨wd_726, ⟨rfl, rfl, rfl⟩⟩, trivial, wd_704, trivial, trivial, trivial, trivial, wd_704, trivial, trivial⟩
theorem ck94_0 : cd94_0.all (good 94) = true := by decide +kernel
theorem lk94_1 : allP (LkP 94) cd94_1 := ⟨trivial, trivial, trivial, wd_704, trivial, trivial, trivial, trivial, wd_704, trivial, trivial, trivial, trivial, wd_704, trivial, trivial, trivial, trivial, wd_704, trivial, trivial, trivial, trivial, wd_704, trivial, trivial, trivial, trivial, wd_704, trivial, trivial, trivial, trivial, wd_704, trivial, trivial, trivial, trivial, trivial⟩
theorem ck94_1 : cd94_1.all (good 94) = true := by decide +kernel
theorem lk94 : allP (LkP 94) cd94 := allP_app lk94_0 (lk94_1)
theorem ck94 : cd94.all (good 94) = true := all_app ck94_0 (ck94_1)
theorem lk95 : allP (LkP 95) cd95 := ⟨trivial, trivial, trivial, trivial, trivial, trivial, trivial, trivial, trivial, trivial, trivial⟩
theorem ck95 : cd95.all (good 95) = true := by decide +kernel
theorem lk96 : allP (LkP 96) cd96 := ⟨trivial, wd_793, wd_794, ⟨Or.inl wd_795, gm_95, km_95⟩, trivial, trivial⟩
theorem ck96 : cd96.all (good 96) = true := by decide +kernel
theorem lk97 : allP (LkP 97) cd97 := ⟨trivial, trivial, trivial, trivial, trivial, trivial, trivial, trivial, trivial, trivial, trivial, trivial, trivial, trivial, trivial⟩
theorem ck97 : cd97.all (good 97) = true := by decide +kernel
theorem lk98 : allP (LkP 98) cd98 := ⟨trivial, wd_704, trivial, wd_705, ⟨Or.inl wd_783, gm_97, km_97⟩, trivial, trivial⟩
theorem ck98 : cd98.all (good 98) = true := by decide +kernel
theorem lk99_0 : allP (LkP 99) cd99_0 := ⟨trivial, ⟨Or.inl wd_790, gm_96, km_96⟩, trivial, trivial, wd_705, trivial, wd_704, ⟨Or.inl wd_783, gm_97, km_97⟩, trivial, trivial, trivial, wd_708, trivial, trivial, trivial, trivial, trivial, trivial, trivial, trivial, wd_707, trivial, trivial, wd_707, trivial, trivial, trivial, trivial, trivial, trivial, trivial, trivial, trivial, wd_708, trivial, trivial, ⟨wd_708, trivial⟩, trivial, trivial, trivial, trivial, trivial, trivial, wd_707, trivial, trivial, wd_708, trivial, trivial, trivial, trivial⟩
theorem ck99_0 : cd99_0.all (good 99) = true := by decide +kernel
theorem lk99_1 : allP (LkP 99) cd99_1 := ⟨trivial, wd_705, trivial, trivial, trivial, trivial, trivial, trivial, trivial, wd_708, trivial, trivial, ⟨wd_708, trivial⟩, trivial, trivial, trivial⟩
theorem ck99_1 : cd99_1.all (good 99) = true := by decide +kernel
theorem lk99 : allP (LkP 99) cd99 := allP_app lk99_0 (lk99_1)
theorem ck99 : cd99.all (good 99) = true := all_app ck99_0 (ck99_1)
theorem lk100 : allP (LkP 100) cd100 := ⟨trivial, trivial, trivial, wd_704, trivial, trivial, trivial, trivial, ⟨Or.inl wd_795, gm_95, km_95⟩, trivial, trivial⟩
theorem ck100 : cd100.all (good 100) = true := by decide +kernel
theorem lk101 : allP (LkP 101) cd101 := ⟨trivial, trivial, trivial, wd_704, trivial, trivial, trivial, trivial, ⟨Or.inl wd_795, gm_95, km_95⟩, trivial, trivial⟩
theorem ck101 : cd101.all (good 101) = true := by decide +kernel
theorem lk102 : allP (LkP 102) cd102 := ⟨trivial, wd_704, trivial, trivial, trivial, trivial, trivial, trivial, trivial, trivial, trivial, trivial⟩
theorem ck102 : cd102.all (good 102) = true := by decide +kernel
theorem lk103 : allP (LkP 103) cd103 := ⟨trivial, wd_704, trivial, trivial, trivial, trivial, trivial, trivial, trivial, trivial, trivial, trivial, trivial⟩
theorem ck103 : cd103.all (good 103) = true := by decide +kernel
theorem lk104 : allP (LkP 104) cd104 := ⟨trivial, trivial, trivial, ⟨rfl, wd_826, gm_102, km_102⟩, trivial, trivial, trivial, trivial, trivial, trivial⟩
theorem ck104 : cd104.all (good 104) = true := by decide +kernel
theorem lk105 : allP (LkP 105) cd105 := ⟨trivial, trivial, trivial, ⟨rfl, wd_826, gm_102, km_102⟩, trivial, trivial, trivial, trivial, trivial, ⟨rfl, wd_826, gm_102, km_102⟩, trivial, trivial, trivial, trivial, ⟨rfl, wd_826, gm_102, km_102⟩, trivial, trivial, trivial, trivial, trivial, ⟨rfl, wd_826, gm_102, km_102⟩, trivial, trivial, trivial, trivial⟩
theorem ck105 : cd105.all (good 105) = true := by decide +kernel
theorem lk106 : allP (LkP 106) cd106 := ⟨trivial, trivial, trivial, ⟨rfl, wd_826, gm_102, km_102⟩, trivial, trivial, trivial, trivial, trivial, ⟨rfl, wd_826, gm_102, km_102⟩, trivial, trivial, trivial, trivial, trivial⟩
theorem ck106 : cd106.all (good 106) = true := by decide +kernel
theorem lk107 : allP (LkP 107) cd107 := ⟨trivial, trivial, trivial, trivial, trivial, trivial, wd_704, trivial, trivial, trivial, trivial, trivial, trivial, ⟨rfl, wd_835, gm_104, km_104⟩, trivial, trivial, trivial, trivial, trivial, trivial, trivial, trivial, trivial, trivial, trivial⟩
theorem ck107 : cd107.all (good 107) = true := by decide +kernel
theorem lk108 : allP (LkP 108) cd108 := ⟨trivial, trivial, trivial, trivial, trivial, trivial, wd_704, trivial, trivial, trivial, trivial, trivial, trivial, ⟨rfl, wd_835, gm_104, km_104⟩, trivial, trivial, trivial, trivial, ⟨rfl, wd_879, gm_105, km_105⟩, trivial, trivial, trivial, trivial, trivial, trivial, trivial, trivial, trivial, trivial, trivial, trivial⟩
theorem ck108 : cd108.all (good 108) = true := by decide +kernel
theorem lk109 : allP (LkP 109) cd109 := ⟨trivial, trivial, trivial, trivial, trivial, trivial, wd_704, trivial, trivial, trivial, trivial, trivial, trivial, trivial, ⟨rfl, wd_826, gm_102, km_102⟩, trivial, trivial, trivial, trivial, trivial, trivial, trivial⟩
theorem ck109 : cd109.all (good 109) = true := by decide +kernel
theorem lk110_0 : allP (LkP 110) cd110_0 := ⟨trivial, trivial, trivial, trivial, trivial, trivial, wd_711, trivial, trivial, trivial, trivial, trivial, trivial, trivial, trivial, trivial, trivial, trivial, trivial, trivial, wd_704, trivial, trivial, trivial, trivial, trivial, trivial, trivial, wd_704, trivial, trivial, trivial, trivial, trivial, trivial, ⟨rfl, wd_826, gm_102, km_102⟩, trivial, trivial, trivial, trivial, ⟨rfl, wd_826, gm_102, km_102⟩, trivial, trivial, trivial, ⟨rfl, wd_835, gm_104, km_104⟩, trivial, trivial, trivial, trivial, ⟨rfl, wd_826, gm_102, km_102⟩, trivial⟩
theorem ck110_0 : cd110_0.all (good 110) = true := by decide +kernel
theorem lk110_1 : allP (LkP 110) cd110_1 := ⟨trivial, trivial, trivial, trivial, wd_711, trivial, trivial, wd_711, trivial, trivial, trivial, trivial, trivial, wd_711, trivial, trivial, trivial, trivial, wd_711, trivial, trivial, trivial, trivial, trivial, trivial, wd_711, trivial, trivial, trivial, trivial, wd_711, trivial, trivial, wd_711, trivial, trivial, trivial, trivial, trivial, wd_711, trivial, trivial, trivial, trivial, wd_711, trivial, trivial, trivial, trivial, trivial, trivial⟩
theorem ck110_1 : cd110_1.all (good 110) = true := by decide +kernel
theorem lk110_2 : allP (LkP 110) cd110_2 := ⟨trivial, wd_711, trivial, trivial, trivial, trivial, trivial, trivial, trivial, trivial, wd_711, trivial, trivial, trivial, trivial, trivial, wd_711, trivial, trivial, trivial, wd_793, trivial, trivial⟩
theorem ck110_2 : cd110_2.all (good 110) = true := by decide +kernel
theorem lk110 : allP (LkP 110) cd110 := allP_app lk110_0 (allP_app lk110_1 (lk110_2))
theorem ck110 : cd110.all (good 110) = true := all_app ck110_0 (all_app ck110_1 (ck110_2))
theorem lk111 : allP (LkP 111) cd111 := ⟨trivial, trivial, ⟨wd_712, trivial⟩, trivial, trivial, ⟨wd_713, trivial⟩, trivial, trivial, ⟨wd_714, trivial⟩, trivial, trivial, ⟨wd_715, trivial⟩, trivial, trivial, ⟨wd_716, trivial⟩, trivial, trivial, ⟨wd_717, trivial⟩, trivial, wd_718, trivial, trivial, trivial, trivial, trivial⟩
theorem ck111 : cd111.all (good 111) = true := by decide +kernel
theorem lk112 : allP (LkP 112) cd112 := ⟨trivial, trivial, trivial, wd_712, ⟨rfl, wd_879, gm_105, km_105⟩, trivial, trivial, trivial, ⟨rfl, wd_835, gm_104, km_104⟩, trivial, trivial, trivial, trivial, trivial, wd_716, trivial, trivial, trivial, trivial, trivial, trivial, trivial, trivial, trivial, trivial⟩
theorem ck112 : cd112.all (good 112) = true := by decide +kernel
theorem lk113 : allP (LkP 113) cd113 := ⟨trivial, trivial, trivial, trivial, wd_712, ⟨rfl, wd_879, gm_105, km_105⟩, ⟨wd_712, trivial⟩, trivial, trivial, wd_716, trivial, trivial, wd_712, trivial, trivial, ⟨wd_716, trivial⟩, trivial, trivial, wd_715, trivial, trivial, trivial, trivial, ⟨wd_715, trivial⟩, trivial, trivial, wd_713, trivial, trivial, trivial, ⟨rfl, wd_826, gm_102, km_102⟩, trivial, ⟨wd_713, trivial⟩, trivial, trivial, wd_714, trivial, trivial, ⟨wd_714, trivial⟩, trivial, wd_718, trivial, wd_714, trivial, wd_712, trivial, trivial, trivial⟩
theorem ck113 : cd113.all (good 113) = true := by decide +kernel
theorem lk114_0 : allP (LkP 114) cd114_0 := ⟨trivial, trivial, trivial, trivial, trivial, trivial, wd_704, trivial, trivial, trivial, trivial, trivial, trivial, ⟨rfl, wd_875, gm_112, km_112⟩, trivial, trivial, trivial, ⟨rfl, wd_883, gm_106, km_106⟩, trivial, trivial, trivial, trivial, trivial, trivial, trivial, trivial, trivial, trivial, trivial, wd_704, trivial, trivial, trivial, wd_887, trivial, wd_888, trivial, trivial, trivial, wd_704, trivial, trivial, trivial, trivial, trivial, wd_704, trivial, trivial, trivial, trivial, trivial⟩
theorem ck114_0 : cd114_0.all (good 114) = true := by decide +kernel
theorem lk114_1 : allP (LkP 114) cd114_1 := ⟨trivial, trivial, trivial, trivial, trivial, trivial, trivial, wd_704, trivial, trivial, trivial, trivial, trivial, trivial, trivial, trivial, ⟨rfl, wd_875, gm_112, km_112⟩, trivial, trivial, trivial, ⟨rfl, wd_883, gm_106, km_106⟩, trivial, trivial, trivial, trivial, trivial, trivial, trivial, trivial, trivial, trivial, trivial, trivial, trivial, trivial, trivial, trivial, trivial, trivial, trivial⟩
theorem ck114_1 : cd114_1.all (good 114) = true := by decide +kernel
theorem lk114 : allP (LkP 114) cd114 := allP_app lk114_0 (lk114_1)
theorem ck114 : cd114.all (good 114) = true := all_app ck114_0 (ck114_1)
theorem lk115_0 : allP (LkP 115) cd115_0 := ⟨trivial, ⟨rfl, wd_867, gm_111, km_111⟩, trivial, wd_712, trivial, wd_704, trivial, trivial, trivial, trivial, wd_717, trivial, trivial, ⟨rfl, wd_871, gm_114, km_114⟩, trivial, trivial, trivial, trivial, trivial, trivial, trivial, trivial, wd_713, trivial, trivial, trivial, ⟨rfl, wd_826, gm_102, km_102⟩, trivial, trivial, wd_704, trivial, trivial, trivial, trivial, trivial, trivial, ⟨wd_717, trivial⟩, trivial, wd_717, trivial, trivial, trivial, ⟨rfl, wd_889, gm_113, km_113⟩, trivial, trivial, trivial, trivial, trivial, trivial, ⟨rfl, wd_826, gm_102, km_102⟩, trivial⟩
theorem ck115_0 : cd115_0.all (good 115) = true := by decide +kernel
theorem lk115_1 : allP (LkP 115) cd115_1 := ⟨trivial, trivial, ⟨rfl, wd_810, gm_103, km_103⟩, trivial, wd_704, trivial, trivial, trivial, wd_712, trivial, trivial, trivial, trivial, trivial, trivial, trivial, trivial, trivial, trivial, trivial, wd_704, trivial, trivial, trivial, wd_712, trivial, trivial, trivial, trivial, trivial, trivial, trivial, wd_717, trivial, trivial, trivial, trivial, trivial, trivial, trivial, trivial, wd_704, trivial, trivial, trivial, trivial, trivial, trivial, trivial, wd_704, trivial⟩
theorem ck115_1 : cd115_1.all (good 115) = true := by decide +kernel
theorem lk115_2 : allP (LkP 115) cd115_2 := ⟨trivial, trivial, trivial, trivial, wd_717, trivial, trivial, trivial, trivial, trivial, trivial, trivial, wd_704, trivial, trivial, trivial, trivial, wd_717, trivial, trivial, trivial, trivial, trivial, trivial, trivial, trivial, wd_704, trivial, trivial, trivial, trivial, wd_717, trivial, trivial, trivial, trivial, trivial, trivial, trivial, trivial, trivial⟩
theorem ck115_2 : cd115_2.all (good 115) = true := by decide +kernel
theorem lk115 : allP (LkP 115) cd115 := allP_app lk115_0 (allP_app lk115_1 (lk115_2))
theorem ck115 : cd115.all (good 115) = true := all_app ck115_0 (all_app ck115_1 (ck115_2))
theorem lk116 : allP (LkP 116) cd116 := ⟨trivial, trivial, trivial, trivial, wd_704, trivial, trivial, trivial, trivial, trivial, trivial, trivial, trivial, trivial, ⟨rfl, wd_826, gm_102, km_102⟩, trivial, trivial, trivial, trivial, trivial, trivial, trivial, trivial, trivial, trivial, trivial, ⟨rfl, wd_810, gm_103, km_103⟩, trivial, trivial, trivial, trivial⟩
theorem ck116 : cd116.all (good 116) = true := by decide +kernel
theorem lk117 : allP (LkP 117) cd117 := ⟨trivial, wd_704, trivial, trivial, wd_713, trivial, trivial, wd_704, trivial, trivial, wd_714, trivial, trivial, wd_704, trivial, trivial, wd_704, trivial, trivial, trivial, trivial, wd_704, trivial, trivial, wd_715, trivial, trivial, trivial, trivial, trivial, wd_714, trivial, trivial, wd_704, trivial, trivial, trivial, trivial, wd_718, trivial, trivial, trivial, trivial, trivial, trivial, trivial⟩
theorem ck117 : cd117.all (good 117) = true := by decide +kernel
theorem lk118_0 : allP (LkP 118) cd118_0 := ⟨trivial, trivial, trivial, trivial, trivial, trivial, wd_704, trivial, trivial, trivial, trivial, ⟨rfl, wd_863, gm_115, km_115⟩, trivial, wd_717, trivial, trivial, wd_719, trivial, trivial, wd_715, trivial, trivial, wd_720, trivial, trivial, wd_713, trivial, trivial, trivial, wd_704, trivial, trivial, trivial, trivial, wd_713, trivial, wd_704, trivial, trivial, trivial, trivial, ⟨rfl, wd_893, gm_117, km_117⟩, trivial, trivial, trivial, trivial, trivial, trivial, wd_704, trivial, trivial⟩
theorem ck118_0 : cd118_0.all (good 118) = true := by decide +kernel
theorem lk118_1 : allP (LkP 118) cd118_1 := ⟨trivial, trivial, trivial, trivial, trivial, trivial, trivial, trivial, ⟨rfl, wd_826, gm_102, km_102⟩, trivial, trivial, trivial, ⟨rfl, wd_826, gm_102, km_102⟩, trivial, wd_704, trivial, trivial, trivial, trivial, trivial, trivial, ⟨rfl, wd_810, gm_103, km_103⟩, trivial, trivial, trivial, trivial, trivial, trivial, trivial, trivial, trivial, wd_719, trivial, trivial, trivial, wd_704, trivial, trivial, trivial, wd_720, trivial, trivial, trivial, ⟨rfl, wd_897, gm_116, km_116⟩, trivial, trivial, trivial, wd_704, trivial, trivial, trivial⟩
theorem ck118_1 : cd118_1.all (good 118) = true := by decide +kernel
theorem lk118_2 : allP (LkP 118) cd118_2 := ⟨trivial, trivial, trivial, wd_704, trivial, trivial, trivial, wd_704, trivial, trivial, trivial, wd_704, trivial, trivial, trivial, wd_704, trivial, trivial, trivial, trivial, ⟨rfl, wd_897, gm_116, km_116⟩, trivial, trivial, trivial, trivial, wd_704, trivial, trivial, trivial, trivial, trivial, trivial, ⟨rfl, wd_826, gm_102, km_102⟩, trivial, trivial, trivial, trivial, trivial, trivial, wd_704, trivial, trivial, trivial, trivial, wd_704, trivial, trivial, trivial, trivial, trivial, trivial⟩
theorem ck118_2 : cd118_2.all (good 118) = true := by decide +kernel
theorem lk118_3 : allP (LkP 118) cd118_3 := ⟨wd_704, trivial, trivial, trivial, trivial, wd_704, trivial, trivial, trivial, trivial, ⟨rfl, wd_810, gm_103, km_103⟩, trivial, trivial, trivial, wd_704, trivial, trivial, trivial, trivial, trivial, trivial, trivial, trivial⟩
theorem ck118_3 : cd118_3.all (good 118) = true := by decide +kernel
theorem lk118 : allP (LkP 118) cd118 := allP_app lk118_0 (allP_app lk118_1 (allP_app lk118_2 (lk118_3)))
theorem ck118 : cd118.all (good 118) = true := all_app ck118_0 (all_app ck118_1 (all_app ck118_2 (ck118_3)))
theorem lk119 : allP (LkP 119) cd119 := ⟨trivial, trivial, trivial, trivial, trivial, trivial, ⟨rfl, wd_859, gm_118, km_118⟩, trivial, trivial, trivial, trivial⟩
theorem ck119 : cd119.all (good 119) = true := by decide +kernel
theorem lk120_0 : allP (LkP 120) cd120_0 := ⟨trivial, trivial, ⟨rfl, wd_806, gm_100, km_100⟩, trivial, trivial, trivial, ⟨rfl, wd_806, gm_100, km_100⟩, trivial, trivial, trivial, trivial, trivial, trivial, trivial, ⟨Or.inl wd_795, gm_95, km_95⟩, trivial, wd_794, trivial, trivial, wd_704, trivial, trivial, trivial, trivial, wd_778, trivial, trivial, wd_704, trivial, trivial, trivial, trivial, trivial, trivial, trivial, ⟨rfl, wd_810, gm_103, km_103⟩, trivial, trivial, trivial, trivial, ⟨rfl, wd_810, gm_103, km_103⟩, trivial, trivial, trivial, trivial, ⟨rfl, wd_810, gm_103, km_103⟩, trivial, trivial, trivial, trivial, trivial⟩
theorem ck120_0 : cd120_0.all (good 120) = true := by decide +kernel
theorem lk120_1 : allP (LkP 120) cd120_1 := ⟨wd_704, trivial, trivial, ⟨rfl, wd_810, gm_103, km_103⟩, trivial, trivial, trivial, trivial, ⟨rfl, wd_810, gm_103, km_103⟩, trivial, trivial, trivial, trivial, ⟨rfl, wd_810, gm_103, km_103⟩, trivial, wd_704, trivial, trivial, trivial, trivial, trivial, trivial, trivial, trivial, trivial⟩
theorem ck120_1 : cd120_1.all (good 120) = true := by decide +kernel
theorem lk120 : allP (LkP 120) cd120 := allP_app lk120_0 (lk120_1)
theorem ck120 : cd120.all (good 120) = true := all_app ck120_0 (ck120_1)
theorem lk121 : allP (LkP 121) cd121 := ⟨trivial, trivial, ⟨rfl, wd_822, gm_101, km_101⟩, trivial, wd_794, trivial, trivial, trivial, trivial, ⟨rfl, wd_826, gm_102, km_102⟩, trivial, trivial, wd_830, trivial, trivial, trivial, trivial, trivial, ⟨rfl, wd_810, gm_103, km_103⟩, trivial, ⟨rfl, wd_831, gm_107, km_107⟩, trivial, trivial⟩
theorem ck121 : cd121.all (good 121) = true := by decide +kernel
theorem lk122 : allP (LkP 122) cd122 := ⟨trivial, trivial, ⟨rfl, wd_806, gm_100, km_100⟩, trivial, trivial, trivial, wd_794, trivial, trivial, wd_704, trivial, trivial, trivial, trivial, wd_830, trivial, trivial, wd_704, trivial, trivial, trivial, trivial, wd_704, trivial, trivial, trivial, trivial, wd_704, trivial, trivial, trivial, trivial, trivial, trivial⟩
theorem ck122 : cd122.all (good 122) = true := by decide +kernel
theorem lk123 : allP (LkP 123) cd123 := ⟨trivial, trivial, trivial, ⟨Or.inl wd_795, gm_95, km_95⟩, trivial, wd_794, trivial, trivial, wd_704, trivial, trivial, trivial, trivial, wd_830, trivial, trivial, wd_704, trivial, trivial, trivial, trivial, trivial, ⟨rfl, wd_855, gm_119, km_119⟩, trivial, wd_704, trivial, trivial, trivial, trivial, trivial, trivial⟩
theorem ck123 : cd123.all (good 123) = true := by decide +kernel
theorem lk124 : allP (LkP 124) cd124 := ⟨trivial, trivial, trivial, trivial, trivial, ⟨Or.inl wd_795, gm_95, km_95⟩, trivial, trivial, trivial, trivial, ⟨Or.inl wd_795, gm_95, km_95⟩, trivial, trivial, trivial, trivial, ⟨Or.inl wd_795, gm_95, km_95⟩, trivial, trivial, trivial, trivial, ⟨Or.inl wd_795, gm_95, km_95⟩, trivial, trivial, trivial, trivial, ⟨Or.inl wd_795, gm_95, km_95⟩, trivial, trivial, trivial, trivial, ⟨Or.inl wd_795, gm_95, km_95⟩, trivial, trivial, trivial, trivial⟩
theorem ck124 : cd124.all (good 124) = true := by decide +kernel
theorem lk125 : allP (LkP 125) cd125 := ⟨trivial, trivial, ⟨Or.inl wd_917, gm_124, km_124⟩, trivial, wd_794, trivial, trivial, wd_704, trivial, trivial, trivial, trivial, trivial, trivial, wd_704, trivial, trivial, trivial, trivial, trivial, trivial, trivial, trivial⟩
theorem ck125 : cd125.all (good 125) = true := by decide +kernel
theorem lk126 : allP (LkP 126) cd126 := ⟨trivial, wd_704, trivial, trivial, trivial, trivial, wd_778, trivial, trivial, ⟨rfl, wd_779, gm_98, km_98⟩, trivial, wd_704, trivial, trivial, trivial, trivial, trivial, trivial, trivial, trivial, wd_704, trivial, trivial, trivial, trivial, ⟨rfl, wd_786, gm_99, km_99⟩, trivial, trivial⟩
theorem ck126 : cd126.all (good 126) = true := by decide +kernel
theorem lk127 : allP (LkP 127) cd127 := ⟨trivial, ⟨rfl, wd_779, gm_98, km_98⟩, trivial, trivial, trivial, trivial, trivial, ⟨rfl, wd_802, gm_120, km_120⟩, ⟨rfl, wd_786, gm_99, km_99⟩, trivial, trivial⟩
theorem ck127 : cd127.all (good 127) = true := by decide +kernel
theorem lk128 : allP (LkP 128) cd128 := ⟨trivial, ⟨rfl, wd_779, gm_98, km_98⟩, trivial, trivial, trivial, trivial, trivial, trivial, trivial, trivial, ⟨rfl, wd_818, gm_121, km_121⟩, ⟨rfl, wd_786, gm_99, km_99⟩, trivial, trivial⟩
theorem ck128 : cd128.all (good 128) = true := by decide +kernel
theorem lk129 : allP (LkP 129) cd129 := ⟨trivial, ⟨rfl, wd_779, gm_98, km_98⟩, trivial, trivial, trivial, ⟨rfl, wd_843, gm_122, km_122⟩, ⟨rfl, wd_786, gm_99, km_99⟩, trivial, trivial⟩
theorem ck129 : cd129.all (good 129) = true := by decide +kernel
theorem lk130 : allP (LkP 130) cd130 := ⟨trivial, ⟨rfl, wd_779, gm_98, km_98⟩, trivial, trivial, trivial, ⟨rfl, wd_851, gm_123, km_123⟩, ⟨rfl, wd_786, gm_99, km_99⟩, trivial, trivial⟩
theorem ck130 : cd130.all (good 130) = true := by decide +kernel
theorem lk131 : allP (LkP 131) cd131 := ⟨trivial, ⟨rfl, wd_779, gm_98, km_98⟩, trivial, ⟨rfl, wd_905, gm_109, km_109⟩, trivial, trivial, wd_704, trivial, trivial, trivial, trivial, trivial, trivial, trivial, wd_704, trivial, trivial, trivial, trivial, trivial, trivial, trivial, wd_704, trivial, trivial, ⟨rfl, wd_810, gm_103, km_103⟩, trivial, trivial, trivial, trivial, trivial, ⟨rfl, wd_905, gm_109, km_109⟩, trivial, ⟨rfl, wd_786, gm_99, km_99⟩, trivial, trivial⟩
theorem ck131 : cd131.all (good 131) = true := by decide +kernel
theorem lk132 : allP (LkP 132) cd132 := ⟨trivial, ⟨rfl, wd_779, gm_98, km_98⟩, trivial, trivial, trivial, trivial, ⟨rfl, wd_913, gm_125, km_125⟩, ⟨rfl, wd_786, gm_99, km_99⟩, trivial, trivial⟩
theorem ck132 : cd132.all (good 132) = true := by decide +kernel
theorem lk133 : allP (LkP 133) cd133 := ⟨trivial, wd_704, trivial, trivial, trivial, trivial, wd_704, trivial, trivial, trivial, trivial, trivial, trivial, trivial, trivial, trivial, trivial⟩
theorem ck133 : cd133.all (good 133) = true := by decide +kernel
theorem lk134 : allP (LkP 134) cd134 := ⟨trivial, trivial, ⟨rfl, wd_822, gm_101, km_101⟩, trivial, wd_794, trivial, trivial, trivial, trivial, trivial, trivial, ⟨rfl, wd_826, gm_102, km_102⟩, trivial, trivial, trivial, ⟨rfl, wd_883, gm_106, km_106⟩, trivial, trivial, trivial, trivial, ⟨rfl, wd_826, gm_102, km_102⟩, trivial, trivial, trivial, ⟨rfl, wd_924, gm_133, km_133⟩, trivial, wd_794, trivial, trivial⟩
theorem ck134 : cd134.all (good 134) = true := by decide +kernel
theorem lk135 : allP (LkP 135) cd135 := ⟨trivial, trivial, trivial, trivial, trivial, trivial, wd_704, trivial, trivial, trivial, trivial, wd_704, trivial, trivial, trivial, trivial, wd_704, trivial, trivial, trivial, trivial, trivial, trivial, trivial, trivial, trivial, trivial, trivial, trivial, trivial, trivial, trivial⟩
theorem ck135 : cd135.all (good 135) = true := by decide +kernel
theorem lk136 : allP (LkP 136) cd136 := ⟨trivial, trivial, ⟨rfl, wd_806, gm_100, km_100⟩, trivial, wd_794, trivial, trivial, trivial, trivial, trivial, ⟨rfl, wd_932, gm_108, km_108⟩, trivial, trivial, wd_704, trivial, trivial, trivial, trivial, trivial, trivial, trivial, trivial, trivial, trivial, trivial, trivial, trivial, ⟨rfl, wd_936, gm_110, km_110⟩, trivial, trivial, trivial, ⟨rfl, wd_940, gm_135, km_135⟩, trivial, wd_794, trivial, trivial⟩
theorem ck136 : cd136.all (good 136) = true := by decide +kernel
theorem lk137 : allP (LkP 137) cd137 := ⟨trivial, trivial, trivial, ⟨Or.inl wd_795, gm_95, km_95⟩, trivial, wd_794, trivial, trivial, wd_704, trivial, trivial, trivial, wd_793, trivial, trivial, wd_704, trivial, trivial, trivial, trivial, trivial, trivial⟩
theorem ck137 : cd137.all (good 137) = true := by decide +kernel
theorem lk138 : allP (LkP 138) cd138 := ⟨trivial, trivial, wd_794, trivial, trivial, wd_704, trivial, trivial, trivial, trivial, trivial, wd_704, trivial, trivial, trivial, trivial, wd_704, trivial, trivial, trivial, trivial, trivial, wd_793, trivial, trivial⟩
theorem ck138 : cd138.all (good 138) = true := by decide +kernel
theorem lk139_0 : allP (LkP 139) cd139_0 := ⟨trivial, trivial, ⟨rfl, wd_806, gm_100, km_100⟩, trivial, trivial, trivial, ⟨rfl, wd_822, gm_101, km_101⟩, trivial, wd_794, trivial, trivial, trivial, trivial, ⟨rfl, wd_879, gm_105, km_105⟩, trivial, trivial, trivial, trivial, ⟨rfl, wd_835, gm_104, km_104⟩, trivial, wd_793, trivial, trivial, trivial, trivial, trivial, trivial, trivial, wd_704, trivial, trivial, trivial, trivial, trivial, trivial, ⟨rfl, wd_835, gm_104, km_104⟩, trivial, trivial, trivial, trivial, ⟨rfl, wd_879, gm_105, km_105⟩, trivial, trivial, trivial, trivial, ⟨rfl, wd_883, gm_106, km_106⟩, trivial, trivial, trivial, trivial, trivial⟩
theorem ck139_0 : cd139_0.all (good 139) = true := by decide +kernel
theorem lk139_1 : allP (LkP 139) cd139_1 := ⟨trivial, trivial, trivial, trivial, ⟨rfl, wd_883, gm_106, km_106⟩, trivial, trivial, trivial, trivial, ⟨Or.inl wd_956, gm_161, km_161⟩, trivial, trivial⟩
theorem ck139_1 : cd139_1.all (good 139) = true := by decide +kernel
theorem lk139 : allP (LkP 139) cd139 := allP_app lk139_0 (lk139_1)
theorem ck139 : cd139.all (good 139) = true := all_app ck139_0 (ck139_1)
theorem lk140 : allP (LkP 140) cd140 := ⟨trivial, trivial, trivial, ⟨rfl, wd_826, gm_102, km_102⟩, trivial, trivial, trivial, ⟨rfl, wd_826, gm_102, km_102⟩, trivial, trivial, trivial, trivial, trivial, trivial, trivial, trivial, trivial, ⟨rfl, wd_826, gm_102, km_102⟩, trivial, trivial, trivial, ⟨rfl, wd_826, gm_102, km_102⟩, trivial, trivial, trivial, trivial, trivial, trivial⟩
theorem ck140 : cd140.all (good 140) = true := by decide +kernel
theorem lk141 : allP (LkP 141) cd141 := ⟨trivial, trivial, trivial, trivial, trivial, trivial, wd_704, trivial, trivial, trivial, trivial, trivial, ⟨rfl, wd_875, gm_112, km_112⟩, trivial, trivial, trivial, trivial, trivial, trivial, trivial, ⟨rfl, wd_974, gm_140, km_140⟩, trivial, trivial, trivial, trivial, trivial, trivial, trivial, trivial, trivial, trivial, trivial, trivial, trivial, trivial, trivial, trivial⟩
theorem ck141 : cd141.all (good 141) = true := by decide +kernel
theorem lk142_0 : allP (LkP 142) cd142_0 := ⟨trivial, trivial, trivial, ⟨Or.inl wd_795, gm_95, km_95⟩, trivial, wd_794, trivial, trivial, wd_704, trivial, trivial, trivial, trivial, wd_830, trivial, trivial, ⟨rfl, wd_867, gm_111, km_111⟩, trivial, trivial, trivial, trivial, trivial, wd_712, trivial, wd_704, trivial, trivial, trivial, trivial, ⟨rfl, wd_970, gm_141, km_141⟩, trivial, trivial, trivial, trivial, trivial, trivial, trivial, trivial, trivial, trivial, trivial, trivial, ⟨rfl, wd_889, gm_113, km_113⟩, trivial, trivial, trivial, trivial, wd_713, trivial, trivial, trivial⟩
theorem ck142_0 : cd142_0.all (good 142) = true := by decide +kernel
theorem lk142_1 : allP (LkP 142) cd142_1 := ⟨trivial, trivial, trivial, wd_714, trivial, trivial, trivial, trivial, trivial, wd_712, trivial, trivial, wd_712, trivial, wd_704, trivial, trivial, trivial, trivial, trivial, trivial, trivial, trivial⟩
theorem ck142_1 : cd142_1.all (good 142) = true := by decide +kernel
theorem lk142 : allP (LkP 142) cd142 := allP_app lk142_0 (lk142_1)
theorem ck142 : cd142.all (good 142) = true := all_app ck142_0 (ck142_1)
theorem lk143 : allP (LkP 143) cd143 := ⟨trivial, wd_704, trivial, trivial, trivial, wd_793, trivial, trivial, trivial, wd_704, trivial, trivial, ⟨rfl, wd_936, gm_110, km_110⟩, trivial, trivial, wd_793, trivial, wd_793, trivial, trivial, wd_704, trivial, trivial, trivial, trivial, trivial, trivial⟩
theorem ck143 : cd143.all (good 143) = true := by decide +kernel
theorem lk144 : allP (LkP 144) cd144 := ⟨trivial, trivial, trivial, ⟨Or.inl wd_795, gm_95, km_95⟩, trivial, wd_794, trivial, trivial, wd_704, trivial, trivial, trivial, trivial, wd_830, trivial, trivial, wd_704, trivial, wd_706, ⟨Or.inl wd_783, gm_97, km_97⟩, trivial, ⟨rfl, wd_863, gm_115, km_115⟩, trivial, wd_706, trivial, wd_704, ⟨Or.inl wd_783, gm_97, km_97⟩, trivial, trivial, trivial, wd_717, trivial, trivial, trivial, trivial, trivial, wd_713, trivial, trivial, wd_712, trivial, trivial⟩
theorem ck144 : cd144.all (good 144) = true := by decide +kernel
theorem lk145_0 : allP (LkP 145) cd145_0 := ⟨trivial, trivial, trivial, ⟨Or.inl wd_795, gm_95, km_95⟩, trivial, trivial, trivial, trivial, ⟨Or.inl wd_795, gm_95, km_95⟩, trivial, wd_794, trivial, trivial, wd_704, trivial, trivial, trivial, trivial, wd_830, trivial, trivial, wd_704, trivial, wd_706, ⟨Or.inl wd_783, gm_97, km_97⟩, trivial, trivial, ⟨rfl, wd_855, gm_119, km_119⟩, trivial, trivial, trivial, wd_704, trivial, trivial, trivial, wd_706, trivial, trivial, trivial, trivial, trivial, trivial, trivial, trivial, wd_704, trivial, trivial, trivial, wd_706, trivial, trivial⟩
theorem ck145_0 : cd145_0.all (good 145) = true := by decide +kernel
theorem lk145_1 : allP (LkP 145) cd145_1 := ⟨trivial, trivial, trivial, trivial, trivial, trivial, trivial, ⟨rfl, wd_905, gm_109, km_109⟩, trivial, trivial, wd_704, trivial, trivial, trivial, wd_793, trivial, trivial, wd_704, trivial, trivial, trivial, trivial, wd_706, trivial, wd_704, ⟨Or.inl wd_783, gm_97, km_97⟩, trivial, trivial, trivial⟩
theorem ck145_1 : cd145_1.all (good 145) = true := by decide +kernel
theorem lk145 : allP (LkP 145) cd145 := allP_app lk145_0 (lk145_1)
theorem ck145 : cd145.all (good 145) = true := all_app ck145_0 (ck145_1)
theorem lk146 : allP (LkP 146) cd146 := ⟨trivial, trivial, trivial, trivial, trivial, trivial, wd_704, trivial, trivial, trivial, trivial, trivial, trivial, ⟨rfl, wd_826, gm_102, km_102⟩, trivial, trivial, trivial, trivial, trivial, ⟨rfl, wd_826, gm_102, km_102⟩, trivial, trivial, trivial, trivial, trivial, trivial, trivial, trivial⟩
theorem ck146 : cd146.all (good 146) = true := by decide +kernel
theorem lk147 : allP (LkP 147) cd147 := ⟨trivial, trivial, trivial, ⟨Or.inl wd_795, gm_95, km_95⟩, trivial, trivial, wd_704, trivial, trivial, trivial, trivial, trivial, trivial, trivial, trivial, trivial, trivial, wd_704, trivial, trivial, trivial, trivial, ⟨rfl, wd_831, gm_107, km_107⟩, trivial, trivial, wd_704, trivial, trivial, trivial, trivial, trivial, trivial, trivial, trivial, ⟨rfl, wd_905, gm_109, km_109⟩, trivial, trivial, ⟨rfl, wd_994, gm_146, km_146⟩, trivial, trivial, wd_704, trivial, trivial, trivial, trivial, wd_704, trivial, trivial, trivial, trivial, wd_708, trivial, trivial, wd_710, trivial, wd_794, trivial, trivial⟩
theorem ck147 : cd147.all (good 147) = true := by decide +kernel
theorem lk148 : allP (LkP 148) cd148 := ⟨trivial, wd_708, trivial, wd_830, trivial, trivial, trivial, wd_708, trivial, trivial, ⟨wd_708, trivial⟩, trivial, trivial, trivial, trivial, trivial, trivial, wd_704, trivial, trivial, wd_707, trivial, trivial, wd_708, trivial, trivial, trivial, trivial, trivial, trivial, trivial, trivial, wd_708, trivial, trivial⟩
theorem ck148 : cd148.all (good 148) = true := by decide +kernel
theorem lk149 : allP (LkP 149) cd149 := ⟨trivial, trivial, trivial, ⟨Or.inl wd_795, gm_95, km_95⟩, trivial, wd_794, trivial, trivial, wd_710, trivial, trivial, wd_778, trivial, trivial, wd_709, trivial, wd_710, trivial, trivial, trivial, trivial, wd_710, trivial, trivial, ⟨wd_710, trivial⟩, trivial, wd_710, trivial, trivial⟩
theorem ck149 : cd149.all (good 149) = true := by decide +kernel
theorem lk150 : allP (LkP 150) cd150 := ⟨trivial, wd_710, trivial, trivial, trivial, ⟨wd_710, trivial⟩, trivial, trivial, trivial⟩
theorem ck150 : cd150.all (good 150) = true := by decide +kernel
theorem lk151 : allP (LkP 151) cd151 := ⟨trivial, wd_721, trivial, wd_710, trivial, trivial, wd_709, trivial, wd_721, trivial, trivial, trivial, trivial, trivial⟩
theorem ck151 : cd151.all (good 151) = true := by decide +kernel
theorem lk152 : allP (LkP 152) cd152 := ⟨trivial, trivial, wd_725, trivial, trivial, trivial, trivial, trivial, trivial, ⟨wd_725, trivial⟩, trivial, trivial, wd_721, trivial, wd_725, trivial, trivial, trivial, trivial, trivial, ⟨wd_721, trivial⟩, trivial, trivial⟩
theorem ck152 : cd152.all (good 152) = true := by decide +kernel
theorem lk153 : allP (LkP 153) cd153 := ⟨trivial, ⟨rfl, wd_1018, gm_151, km_151⟩, trivial, trivial, trivial, trivial, trivial, ⟨rfl, wd_1018, gm_151, km_151⟩, trivial, trivial, ⟨Or.inl wd_795, gm_95, km_95⟩, ⟨rfl, wd_1029, gm_152, km_152⟩, trivial, trivial, trivial, trivial, trivial, trivial, wd_725, trivial, trivial, ⟨rfl, wd_1018, gm_151, km_151⟩, trivial, trivial, ⟨Or.inl wd_795, gm_95, km_95⟩, trivial, trivial, trivial, trivial, trivial, ⟨rfl, wd_1018, gm_151, km_151⟩, trivial, trivial, trivial, trivial, trivial, trivial, wd_721, trivial, trivial, ⟨wd_721, trivial⟩, trivial, trivial, trivial, trivial, trivial⟩
theorem ck153 : cd153.all (good 153) = true := by decide +kernel
theorem lk154 : allP (LkP 154) cd154 := ⟨trivial, trivial, trivial, trivial, trivial, trivial, trivial, trivial, trivial, trivial, trivial⟩
theorem ck154 : cd154.all (good 154) = true := by decide +kernel
theorem lk155 : allP (LkP 155) cd155 := ⟨trivial, ⟨Or.inl wd_1026, gm_154, km_154⟩, trivial, trivial, trivial, trivial, trivial, trivial, trivial, ⟨rfl, wd_1029, gm_152, km_152⟩, trivial, trivial, trivial, trivial, trivial, trivial, trivial, trivial, trivial, ⟨rfl, wd_1018, gm_151, km_151⟩, trivial, trivial, trivial, trivial, trivial, ⟨rfl, wd_1029, gm_152, km_152⟩, trivial, wd_726, trivial, trivial, ⟨rfl, wd_1033, gm_153, km_153⟩, trivial, trivial, trivial, trivial, trivial, ⟨rfl, wd_1018, gm_151, km_151⟩, trivial, trivial, trivial, trivial, trivial, ⟨rfl, wd_1029, gm_152, km_152⟩, trivial, trivial⟩
theorem ck155 : cd155.all (good 155) = true := by decide +kernel
theorem lk156 : allP (LkP 156) cd156 := ⟨trivial, trivial, trivial, trivial, wd_726, trivial, trivial, trivial, wd_726, trivial, trivial, trivial, wd_726, trivial, trivial, ⟨rfl, wd_802, gm_120, km_120⟩, trivial, trivial, trivial, wd_726, trivial, trivial, trivial, ⟨rfl, wd_818, gm_121, km_121⟩, trivial, trivial, trivial, wd_726, trivial, trivial, trivial, ⟨rfl, wd_818, gm_121, km_121⟩, trivial, trivial, trivial, wd_726, trivial, trivial, ⟨rfl, wd_843, gm_122, km_122⟩, trivial, trivial, trivial, wd_726, trivial, trivial, trivial, wd_726, trivial, trivial, ⟨rfl, wd_913, gm_125, km_125⟩, trivial, trivial, trivial, wd_726, trivial, trivial, ⟨rfl, wd_851, gm_123, km_123⟩, trivial, trivial⟩
theorem ck156 : cd156.all (good 156) = true := by decide +kernel
theorem lk157 : allP (LkP 157) cd157 := ⟨trivial, trivial, ⟨wd_721, trivial⟩, trivial, trivial, ⟨wd_723, trivial⟩, trivial, wd_721, trivial, wd_710, trivial, trivial, trivial, wd_721, ⟨wd_722, trivial⟩, trivial, ⟨rfl, wd_1018, gm_151, km_151⟩, trivial, trivial, trivial, ⟨wd_725, trivial⟩, trivial, trivial, ⟨rfl, wd_1022, gm_155, km_155⟩, trivial, trivial, wd_725, trivial, trivial, trivial, ⟨rfl, wd_1037, gm_156, km_156⟩, trivial, wd_793, ⟨wd_724, trivial⟩, trivial, wd_724, ⟨Or.inl wd_790, gm_96, km_96⟩, trivial, trivial, trivial, trivial, trivial, wd_723, trivial, trivial, ⟨wd_723, trivial⟩, trivial, trivial, trivial, trivial⟩
theorem ck157 : cd157.all (good 157) = true := by decide +kernel
theorem lk158 : allP (LkP 158) cd158 := ⟨trivial, trivial, trivial, ⟨Or.inl wd_795, gm_95, km_95⟩, trivial, wd_794, trivial, trivial, ⟨rfl, wd_779, gm_98, km_98⟩, trivial, ⟨rfl, wd_1014, gm_157, km_157⟩, trivial, trivial, wd_705, trivial, wd_704, ⟨Or.inl wd_783, gm_97, km_97⟩, trivial, trivial, wd_793, trivial, trivial, trivial, trivial, wd_722, trivial, trivial, trivial, trivial, trivial, wd_725, trivial, trivial, trivial, trivial, trivial, trivial, wd_725, trivial, trivial, wd_724, trivial, trivial, wd_721, trivial, wd_722, trivial, trivial, trivial⟩
theorem ck158 : cd158.all (good 158) = true := by decide +kernel
theorem lk159 : allP (LkP 159) cd159 := ⟨trivial, ⟨rfl, wd_779, gm_98, km_98⟩, trivial, trivial, ⟨rfl, wd_1014, gm_157, km_157⟩, trivial, trivial, wd_723, trivial, wd_830, ⟨rfl, wd_786, gm_99, km_99⟩, trivial, trivial⟩
theorem ck159 : cd159.all (good 159) = true := by decide +kernel
theorem lk160 : allP (LkP 160) cd160 := ⟨trivial, trivial, trivial, trivial, trivial, trivial, trivial, trivial, trivial⟩
theorem ck160 : cd160.all (good 160) = true := by decide +kernel
theorem lk161 : allP (LkP 161) cd161 := ⟨trivial, ⟨Or.inl wd_959, gm_160, km_160⟩, trivial, trivial, wd_962, trivial, wd_965, trivial, trivial⟩
theorem ck161 : cd161.all (good 161) = true := by decide +kernel
theorem ck_all : ∀ m, (mC m).all (good m) = true := fun m => match m with
  | 0 => ck0
  | 1 => ck1
  | 2 => ck2
  | 3 => ck3
  | 4 => ck4
  | 5 => ck5
  | 6 => ck6
  | 7 => ck7
  | 8 => ck8
  | 9 => ck9
  | 10 => ck10
  | 11 => ck11
  | 12 => ck12
  | 13 => ck13
  | 14 => ck14
  | 15 => ck15
  | 16 => ck16
  | 17 => ck17
  | 18 => ck18
  | 19 => ck19
  | 20 => ck20
  | 21 => ck21
  | 22 => ck22
  | 23 => ck23
  | 24 => ck24
  | 25 => ck25
  | 26 => ck26
  | 27 => ck27
  | 28 => ck28
  | 29 => ck29
  | 30 => ck30
  | 31 => ck31
  | 32 => ck32
  | 33 => ck33
  | 34 => ck34
  | 35 => ck35
  | 36 => ck36
  | 37 => ck37
  | 38 => ck38
  | 39 => ck39
  | 40 => ck40
  | 41 => ck41
  | 42 => ck42
  | 43 => ck43
  | 44 => ck44
  | 45 => ck45
  | 46 => ck46
  | 47 => ck47
  | 48 => ck48
  | 49 => ck49
  | 50 => ck50
  | 51 => ck51
  | 52 => ck52
  | 53 => ck53
  | 54 => ck54
  | 55 => ck55
  | 56 => ck56
  | 57 => ck57
  | 58 => ck58
  | 59 => ck59
  | 60 => ck60
  | 61 => ck61
  | 62 => ck62
  | 63 => ck63
  | 64 => ck64
  | 65 => ck65
  | 66 => ck66
  | 67 => ck67
  | 68 => ck68
  | 69 => ck69
  | 70 => ck70
  | 71 => ck71
  | 72 => ck72
  | 73 => ck73
  | 74 => ck74
  | 75 => ck75
  | 76 => ck76
  | 77 => ck77
  | 78 => ck78
  | 79 => ck79
  | 80 => ck80
  | 81 => ck81
  | 82 => ck82
  | 83 => ck83
  | 84 => ck84
  | 85 => ck85
  | 86 => ck86
  | 87 => ck87
  | 88 => ck88
  | 89 => ck89
  | 90 => ck90
  | 91 => ck91
  | 92 => ck92
  | 93 => ck93
  | 94 => ck94
  | 95 => ck95
  | 96 => ck96
  | 97 => ck97
  | 98 => ck98
  | 99 => ck99
  | 100 => ck100
  | 101 => ck101
  | 102 => ck102
  | 103 => ck103
  | 104 => ck104
  | 105 => ck105
  | 106 => ck106
  | 107 => ck107
  | 108 => ck108
  | 109 => ck109
  | 110 => ck110
  | 111 => ck111
  | 112 => ck112
  | 113 => ck113
  | 114 => ck114
  | 115 => ck115
  | 116 => ck116
  | 117 => ck117
  | 118 => ck118
  | 119 => ck119
  | 120 => ck120
  | 121 => ck121
  | 122 => ck122
  | 123 => ck123
  | 124 => ck124
  | 125 => ck125
  | 126 => ck126
  | 127 => ck127
  | 128 => ck128
  | 129 => ck129
  | 130 => ck130
  | 131 => ck131
  | 132 => ck132
  | 133 => ck133
  | 134 => ck134
  | 135 => ck135
  | 136 => ck136
  | 137 => ck137
  | 138 => ck138
  | 139 => ck139
  | 140 => ck140
  | 141 => ck141
  | 142 => ck142
  | 143 => ck143
  | 144 => ck144
  | 145 => ck145
  | 146 => ck146
  | 147 => ck147
  | 148 => ck148
  | 149 => ck149
  | 150 => ck150
  | 151 => ck151
  | 152 => ck152
  | 153 => ck153
  | 154 => ck154
  | 155 => ck155
  | 156 => ck156
  | 157 => ck157
  | 158 => ck158
  | 159 => ck159
  | 160 => ck160
  | 161 => ck161
  | _ + 162 => rfl
theorem lk_all : ∀ m, allP (LkP m) (mC m) := fun m => match m with
  | 0 => lk0
  | 1 => lk1
  | 2 => lk2
  | 3 => lk3
  | 4 => lk4
  | 5 => lk5
  | 6 => lk6
  | 7 => lk7
  | 8 => lk8
  | 9 => lk9
  | 10 => lk10
  | 11 => lk11
  | 12 => lk12
  | 13 => lk13
  | 14 => lk14
  | 15 => lk15
  | 16 => lk16
  | 17 => lk17
  | 18 => lk18
  | 19 => lk19
  | 20 => lk20
  | 21 => lk21
  | 22 => lk22
  | 23 => lk23
  | 24 => lk24
  | 25 => lk25
  | 26 => lk26
  | 27 => lk27
  | 28 => lk28
  | 29 => lk29
  | 30 => lk30
  | 31 => lk31
  | 32 => lk32
  | 33 => lk33
  | 34 => lk34
  | 35 => lk35
  | 36 => lk36
  | 37 => lk37
  | 38 => lk38
  | 39 => lk39
  | 40 => lk40
  | 41 => lk41
  | 42 => lk42
  | 43 => lk43
  | 44 => lk44
  | 45 => lk45
  | 46 => lk46
  | 47 => lk47
  | 48 => lk48
  | 49 => lk49
  | 50 => lk50
  | 51 => lk51
  | 52 => lk52
  | 53 => lk53
  | 54 => lk54
  | 55 => lk55
  | 56 => lk56
  | 57 => lk57
  | 58 => lk58
  | 59 => lk59
  | 60 => lk60
  | 61 => lk61
  | 62 => lk62
  | 63 => lk63
  | 64 => lk64
  | 65 => lk65
  | 66 => lk66
  | 67 => lk67
  | 68 => lk68
  | 69 => lk69
  | 70 => lk70
  | 71 => lk71
  | 72 => lk72
  | 73 => lk73
  | 74 => lk74
  | 75 => lk75
  | 76 => lk76
  | 77 => lk77
  | 78 => lk78
  | 79 => lk79
  | 80 => lk80
  | 81 => lk81
  | 82 => lk82
  | 83 => lk83
  | 84 => lk84
  | 85 => lk85
  | 86 => lk86
  | 87 => lk87
  | 88 => lk88
  | 89 => lk89
  | 90 => lk90
  | 91 => lk91
  | 92 => lk92
  | 93 => lk93
  | 94 => lk94
  | 95 => lk95
  | 96 => lk96
  | 97 => lk97
  | 98 => lk98
  | 99 => lk99
  | 100 => lk100
  | 101 => lk101
  | 102 => lk102
  | 103 => lk103
  | 104 => lk104
  | 105 => lk105
  | 106 => lk106
  | 107 => lk107
  | 108 => lk108
  | 109 => lk109
  | 110 => lk110
  | 111 => lk111
  | 112 => lk112
  | 113 => lk113
  | 114 => lk114
  | 115 => lk115
  | 116 => lk116
  | 117 => lk117
  | 118 => lk118
  | 119 => lk119
  | 120 => lk120
  | 121 => lk121
  | 122 => lk122
  | 123 => lk123
  | 124 => lk124
  | 125 => lk125
  | 126 => lk126
  | 127 => lk127
  | 128 => lk128
  | 129 => lk129
  | 130 => lk130
  | 131 => lk131
  | 132 => lk132
  | 133 => lk133
  | 134 => lk134
  | 135 => lk135
  | 136 => lk136
  | 137 => lk137
  | 138 => lk138
  | 139 => lk139
  | 140 => lk140
  | 141 => lk141
  | 142 => lk142
  | 143 => lk143
  | 144 => lk144
  | 145 => lk145
  | 146 => lk146
  | 147 => lk147
  | 148 => lk148
  | 149 => lk149
  | 150 => lk150
  | 151 => lk151
  | 152 => lk152
  | 153 => lk153
  | 154 => lk154
  | 155 => lk155
  | 156 => lk156
  | 157 => lk157
  | 158 => lk158
  | 159 => lk159
  | 160 => lk160
  | 161 => lk161
  | _ + 162 => trivial
theorem fe_mem : ∀ {l : List En} {pc : Nat} {x : Instr × Nat × Nat × Nat × Nat × Nat × Value × List (Int32 × Nat)}, fe l pc = some x → (pc, x) ∈ l
  | [], _, _, h => by simp [fe] at h
  | e :: r, pc, x, h => by
    unfold fe at h
    split at h
    · rename_i he
      cases h
      rw [← he]
      exact List.mem_cons_self
    · exact List.mem_cons_of_mem _ (fe_mem h)
theorem fe_good {m pc : Nat} {x : Instr × Nat × Nat × Nat × Nat × Nat × Value × List (Int32 × Nat)} (h : fe (mC m) pc = some x) : good m (pc, x) = true := List.all_eq_true.mp (ck_all m) _ (fe_mem h)
theorem fe_link {m pc : Nat} {x : Instr × Nat × Nat × Nat × Nat × Nat × Value × List (Int32 × Nat)} (h : fe (mC m) pc = some x) : LkP m (pc, x) := allP_mem (lk_all m) _ (fe_mem h)
