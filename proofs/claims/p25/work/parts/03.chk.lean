def nOf (cv : Value) : Nat := match cv with
  | .retAddr n => n
  | _ => 0
def fe (l : List En) (pc : Nat) : Option (Instr × Nat × Nat × Nat × Nat × Nat × Value × List (Int32 × Nat)) := match l with
  | [] => none
  | e :: r => if e.1 = pc then some e.2 else fe r pc
def cN (c : Nat) : String := match vwCl[c]? with
  | some q => q.1
  | none => ""
def cT (c : Nat) : u_T := match vwCl[c]? with
  | some q => q.2.1
  | none => fun _ => ("", "", "", false)
def cF (c : Nat) : Nat := match vwCl[c]? with
  | some q => q.2.2
  | none => 0
def cY (c : Nat) : Nat → FieldType := match c with
  | 0 => tyX0
  | 1 => tyX1
  | 2 => tyX2
  | 3 => tyX3
  | 4 => tyX4
  | 5 => tyX5
  | _ => tyX6
/-- the marker of a field's type: null a reference, 0 an int, 1 a boolean -/
def tcv (t : FieldType) : Value := match t with
  | .int => .int (nI 0)
  | .boolean => .int (nI 1)
  | _ => .null
def mO (m : Nat) : String := (mY m).cls
def nP (j : Nat) : Option Nat := (parseMethodDescriptor (mY j).desc).map (fun d => d.parameters.length)
def offOk (pc : Nat) (off : Int) (t : Nat) : Bool := decide ((pc : Int) + off = (t : Int))
/-- a table of a switch over consecutive numbers -/
def tswOk (pc : Nat) (lo hi : Int) (offs : Array Int) (sw : List (Int32 × Nat)) : Bool :=
  decide (sw.length = offs.size) && decide (hi = lo + offs.size - 1) && decide (-1000 < lo) && decide (hi < 1000) && (List.range offs.size).all (fun i => decide ((sw[i]?).map (fun q => q.1.toInt) = some (lo + i)) && decide ((sw[i]?).map (fun q => (q.2 : Int)) = (offs[i]?).map (fun o => (pc : Int) + o)))
def lswOk (pc : Nat) (ps : List (Int × Int)) (sw : List (Int32 × Nat)) : Bool := match ps, sw with
  | [], [] => true
  | p :: ps, q :: sw => decide (q.1.toInt = p.1) && decide ((q.2 : Int) = (pc : Int) + p.2) && lswOk pc ps sw
  | _, _ => false
def argN (cv : Value) (k b l : Nat) : Bool := match cv with
  | .retAddr n => decide (k ≤ n ∧ n + b = l)
  | _ => false
def good (m : Nat) (e : En) : Bool := match e with
  | (pc, ins, npc, a, b, d, _, cv, sw) => decide (decode (mB m) pc = .ok (ins, npc - pc)) && match ins with
    | .iconst n => decide (npc = pc + 1) && decide (cv = .int (Int32.ofInt n))
    | .bipush n => decide (npc = pc + 2) && decide (cv = .int (Int8.ofInt n).toInt32)
    | .sipush n => decide (npc = pc + 3) && decide (cv = .int (Int16.ofInt n).toInt32)
    | .ldc _ => decide (npc = pc + 2)
    | .ldc2_w _ => decide (npc = pc + 3)
    | .fconst n => decide (npc = pc + 1) && decide (cv = .float (if n = 0 then FP.fconst0 else if n = 1 then FP.fconst1 else FP.fconst2))
    | .iload _ => decide (npc = pc + 2)
    | .istore _ => decide (npc = pc + 2)
    | .lload _ => decide (npc = pc + 2)
    | .lstore _ => decide (npc = pc + 2)
    | .iinc _ _ => decide (npc = pc + 3)
    | .goto o => decide (npc = pc + 3) && offOk pc o a
    | .if_icmp _ o => decide (npc = pc + 3) && offOk pc o a
    | .ifCond _ o => decide (npc = pc + 3) && offOk pc o a
    | .ifnull o => decide (npc = pc + 3) && offOk pc o a
    | .ifnonnull o => decide (npc = pc + 3) && offOk pc o a
    | .tableswitch df lo hi offs => offOk pc df a && tswOk pc lo hi offs sw
    | .lookupswitch df ps => offOk pc df a && lswOk pc ps.toList sw && (ps.toList.zip (ps.toList.drop 1)).all (fun (x, next) => x.1 < next.1)
    | .getfield _ => decide (npc = pc + 3) && decide (10 ≤ a ∧ a - 10 < 7 ∧ b < cF (a - 10)) && decide (cv = tcv (cY (a - 10) b))
    | .putfield _ => decide (npc = pc + 3) && decide (10 ≤ a ∧ a - 10 < 7 ∧ b < cF (a - 10)) && decide (cv = tcv (cY (a - 10) b))
    | .getstatic _ => decide (npc = pc + 3) && decide (1000 ≤ a ∧ a ≤ 1002)
    | .new _ => decide (npc = pc + 3) && decide (10 ≤ a ∧ a - 10 < 7 ∧ b = cF (a - 10))
    | .newarray t => decide (npc = pc + 2) && decide (t = .int ∨ t = .char)
    | .anewarray _ => decide (npc = pc + 3)
    | .invokevirtual _ => decide (npc = pc + 3) && decide (a < 900) && decide (10 ≤ d ∧ d - 10 < 7) && decide (mK a < mK m) && argN cv 1 b (mL a)
    | .invokestatic _ => decide (npc = pc + 3) && (if d = 0 then decide (a < 900) && decide (mK a < mK m) && argN cv 0 b (mL a) else decide (1 ≤ mK m) && decide (a = 900 + d ∧ d ≤ 2))
    | .invokespecial _ => decide (npc = pc + 3) && (if d = 0 then decide (1 ≤ mK m) && decide (a = 900) else decide (a < 900) && decide (10 ≤ d ∧ d - 10 < 7) && decide (mK a < mK m) && argN cv 1 b (mL a))
    | .ireturn => decide (npc = pc + 1) && decide ((cv = .int (nI 0) ∧ mR m = some .int) ∨ (cv = .int (nI 1) ∧ mR m = some .boolean) ∨ (cv = .int (nI 2) ∧ mR m = some .char))
    | .lreturn => decide (npc = pc + 1) && decide (mR m = some .long)
    | .return_ => decide (npc = pc + 1) && decide (mR m = none)
    | _ => decide (npc = pc + 1)
def cOk (c : String) : Prop := c ≠ "java/lang/invoke/MethodHandle" ∧ c ≠ "java/lang/invoke/VarHandle"
/-- a method's own words -/
def GM (j : Nat) : Prop := Cond.code (mY j) (mB j) (mL j) (mR j) ∈ lw_tbl ∧ Cond.initialized (mY j).cls ∈ lw_tbl ∧ cOk (mY j).cls ∧ plainFor (mY j) = true ∧ (mL j ≤ 17 ∧ (mR j = none ∨ mR j = some .int ∨ mR j = some .boolean ∨ mR j = some .char ∨ mR j = some .long))
def VM (j : Nat) (cv : Value) : Prop := Cond.instanceMethod (mY j) ∈ lw_tbl ∧ Cond.selects (mY j).cls (mY j) (mY j) ∈ lw_tbl ∧ nP j = some (nOf cv - 1)
def SM (j : Nat) (cv : Value) : Prop := Cond.static (mY j) ∈ lw_tbl ∧ nP j = some (nOf cv)
def IM (j : Nat) (cv : Value) : Prop := Cond.instanceMethod (mY j) ∈ lw_tbl ∧ (mY j).name = "<init>" ∧ mR j = none ∧ nP j = some (nOf cv - 1)
def FL (m i c k d : Nat) : Prop := match d with
  | 0 => Cond.fieldLink (mO m) i (cT c k).1 (cT c k).2.1 (cT c k).2.2.1 ∈ lw_tbl
  | _ => Cond.fieldLinkNest (mO m) i (cT c k).1 (cT c k).2.1 (cT c k).2.2.1 "AntTrails" ∈ lw_tbl
def FI (m c k d : Nat) : Prop := match (cT c k).2.2.2 with
  | true => (mY m).name = "<init>" ∧ (cT c k).1 = mO m ∧ d = 0
  | false => True
def LM (m i j : Nat) : Prop := Cond.methodLink (mO m) i (mY j) ∈ lw_tbl ∨ Cond.methodLinkNest (mO m) i (mY j) "AntTrails" ∈ lw_tbl
def stN (c : Nat) : String := match c with
  | 1000 => "AT_FIRST"
  | 1001 => "LEAST"
  | _ => "MOST"
def LkP (m : Nat) (e : En) : Prop := match e with
  | (_, ins, _, a, b, d, _, cv, _) => match ins with
    | .ldc i => (match cv with
      | .int v => Cond.constant (mO m) i v ∈ lw_tbl
      | .float v => Cond.constantFloat (mO m) i v ∈ lw_tbl
      | _ => False)
    | .ldc2_w i => (match cv with
      | .long v => Cond.constantLong (mO m) i v ∈ lw_tbl
      | _ => False)
    | .getfield i => FL m i (a - 10) b d
    | .putfield i => FL m i (a - 10) b d ∧ FI m (a - 10) b d
    | .getstatic i => (match d with
      | 0 => Cond.fieldLink (mO m) i "AntTrails" (stN a) "[I" ∈ lw_tbl
      | _ => Cond.fieldLinkNest (mO m) i "AntTrails" (stN a) "[I" "AntTrails" ∈ lw_tbl)
    | .new i => Cond.classLink (mO m) i (cN (a - 10)) ∈ lw_tbl
    | .anewarray i => Cond.classLink (mO m) i "AntTrails$Ground" ∈ lw_tbl
    | .invokevirtual i => (mY a).cls = cN (d - 10) ∧ Cond.methodLink (mO m) i (mY a) ∈ lw_tbl ∧ GM a ∧ VM a cv
    | .invokestatic i => (match d with
      | 0 => LM m i a ∧ GM a ∧ SM a cv
      | 1 => Cond.methodLink (mO m) i Lib.Math.max.name ∈ lw_tbl
      | 2 => Cond.methodLink (mO m) i Lib.Math.min.name ∈ lw_tbl
      | _ => Cond.methodLink (mO m) i ⟨"java/lang/Float", "floatToRawIntBits", "(F)I"⟩ ∈ lw_tbl)
    | .invokespecial i => (match d with
      | 0 => Cond.methodLink (mO m) i Lib.objectInit ∈ lw_tbl
      | _ => (mY a).cls = cN (d - 10) ∧ LM m i a ∧ GM a ∧ IM a cv)
    | _ => True
def allP (P : En → Prop) : List En → Prop
  | [] => True
  | e :: r => P e ∧ allP P r
theorem allP_app {P : En → Prop} : ∀ {l r : List En}, allP P l → allP P r → allP P (l ++ r)
  | [], _, _, h => h
  | _ :: _, _, h1, h2 => ⟨h1.1, allP_app h1.2 h2⟩
theorem allP_mem {P : En → Prop} : ∀ {l : List En}, allP P l → ∀ e ∈ l, P e
  | [], _, _, h => absurd h List.not_mem_nil
  | _ :: _, h1, _, h => (List.mem_cons.mp h).elim (fun q => q ▸ h1.1) (allP_mem h1.2 _)
theorem all_app {g : En → Bool} {l r : List En} (h1 : l.all g = true) (h2 : r.all g = true) : (l ++ r).all g = true := by rw [List.all_append, h1, h2]; rfl
theorem cok_0 : cOk "AntTrails" := ⟨by decide +kernel, by decide +kernel⟩
theorem pncok_0 : plainName "AntTrails" = true := by decide +kernel
theorem cok_1 : cOk "AntTrails$Colony" := ⟨by decide +kernel, by decide +kernel⟩
theorem pncok_1 : plainName "AntTrails$Colony" = true := by decide +kernel
theorem cok_2 : cOk "AntTrails$Ground" := ⟨by decide +kernel, by decide +kernel⟩
theorem pncok_2 : plainName "AntTrails$Ground" = true := by decide +kernel
theorem cok_3 : cOk "AntTrails$History" := ⟨by decide +kernel, by decide +kernel⟩
theorem pncok_3 : plainName "AntTrails$History" = true := by decide +kernel
theorem cok_4 : cOk "AntTrails$Orders" := ⟨by decide +kernel, by decide +kernel⟩
theorem pncok_4 : plainName "AntTrails$Orders" = true := by decide +kernel
theorem cok_5 : cOk "AntTrails$Survey" := ⟨by decide +kernel, by decide +kernel⟩
theorem pncok_5 : plainName "AntTrails$Survey" = true := by decide +kernel
theorem cok_6 : cOk "AntTrails$Way" := ⟨by decide +kernel, by decide +kernel⟩
theorem pncok_6 : plainName "AntTrails$Way" = true := by decide +kernel
theorem cok_7 : cOk "AntTrailsLaw" := ⟨by decide +kernel, by decide +kernel⟩
theorem pncok_7 : plainName "AntTrailsLaw" = true := by decide +kernel
theorem gm_1 : GM 1 := ⟨wd_26, wd_14, cok_0, plainFor_of_name pncok_0, by decide +kernel⟩
theorem km_1 : IM 1 (.retAddr 1) := ⟨wd_25, rfl, rfl, by decide +kernel⟩
theorem gm_2 : GM 2 := ⟨wd_546, wd_14, cok_0, plainFor_of_name pncok_0, by decide +kernel⟩
theorem km_2 : VM 2 (.retAddr 1) := ⟨wd_544, wd_545, by decide +kernel⟩
theorem gm_3 : GM 3 := ⟨wd_569, wd_14, cok_0, plainFor_of_name pncok_0, by decide +kernel⟩
theorem km_3 : VM 3 (.retAddr 4) := ⟨wd_567, wd_568, by decide +kernel⟩
theorem gm_4 : GM 4 := ⟨wd_579, wd_14, cok_0, plainFor_of_name pncok_0, by decide +kernel⟩
theorem km_4 : VM 4 (.retAddr 3) := ⟨wd_577, wd_578, by decide +kernel⟩
theorem gm_5 : GM 5 := ⟨wd_589, wd_14, cok_0, plainFor_of_name pncok_0, by decide +kernel⟩
theorem km_5 : VM 5 (.retAddr 2) := ⟨wd_587, wd_588, by decide +kernel⟩
theorem gm_6 : GM 6 := ⟨wd_622, wd_14, cok_0, plainFor_of_name pncok_0, by decide +kernel⟩
theorem km_6 : VM 6 (.retAddr 2) := ⟨wd_620, wd_621, by decide +kernel⟩
theorem gm_7 : GM 7 := ⟨wd_598, wd_14, cok_0, plainFor_of_name pncok_0, by decide +kernel⟩
theorem km_7 : VM 7 (.retAddr 1) := ⟨wd_596, wd_597, by decide +kernel⟩
theorem gm_8 : GM 8 := ⟨wd_607, wd_14, cok_0, plainFor_of_name pncok_0, by decide +kernel⟩
theorem km_8 : VM 8 (.retAddr 3) := ⟨wd_605, wd_606, by decide +kernel⟩
theorem gm_9 : GM 9 := ⟨wd_322, wd_14, cok_0, plainFor_of_name pncok_0, by decide +kernel⟩
theorem km_9 : VM 9 (.retAddr 3) := ⟨wd_320, wd_321, by decide +kernel⟩
theorem gm_10 : GM 10 := ⟨wd_339, wd_14, cok_0, plainFor_of_name pncok_0, by decide +kernel⟩
theorem km_10 : VM 10 (.retAddr 3) := ⟨wd_337, wd_338, by decide +kernel⟩
theorem gm_11 : GM 11 := ⟨wd_380, wd_14, cok_0, plainFor_of_name pncok_0, by decide +kernel⟩
theorem km_11 : VM 11 (.retAddr 2) := ⟨wd_378, wd_379, by decide +kernel⟩
theorem gm_12 : GM 12 := ⟨wd_385, wd_14, cok_0, plainFor_of_name pncok_0, by decide +kernel⟩
theorem km_12 : VM 12 (.retAddr 2) := ⟨wd_383, wd_384, by decide +kernel⟩
theorem gm_13 : GM 13 := ⟨wd_397, wd_14, cok_0, plainFor_of_name pncok_0, by decide +kernel⟩
theorem km_13 : VM 13 (.retAddr 3) := ⟨wd_395, wd_396, by decide +kernel⟩
theorem gm_14 : GM 14 := ⟨wd_518, wd_14, cok_0, plainFor_of_name pncok_0, by decide +kernel⟩
theorem km_14 : VM 14 (.retAddr 2) := ⟨wd_516, wd_517, by decide +kernel⟩
theorem gm_15 : GM 15 := ⟨wd_539, wd_14, cok_0, plainFor_of_name pncok_0, by decide +kernel⟩
theorem km_15 : VM 15 (.retAddr 1) := ⟨wd_537, wd_538, by decide +kernel⟩
theorem gm_16 : GM 16 := ⟨wd_508, wd_14, cok_0, plainFor_of_name pncok_0, by decide +kernel⟩
theorem km_16 : VM 16 (.retAddr 2) := ⟨wd_506, wd_507, by decide +kernel⟩
theorem gm_17 : GM 17 := ⟨wd_414, wd_14, cok_0, plainFor_of_name pncok_0, by decide +kernel⟩
theorem km_17 : VM 17 (.retAddr 3) := ⟨wd_412, wd_413, by decide +kernel⟩
theorem gm_18 : GM 18 := ⟨wd_258, wd_14, cok_0, plainFor_of_name pncok_0, by decide +kernel⟩
theorem km_18 : VM 18 (.retAddr 2) := ⟨wd_256, wd_257, by decide +kernel⟩
theorem gm_19 : GM 19 := ⟨wd_293, wd_14, cok_0, plainFor_of_name pncok_0, by decide +kernel⟩
theorem km_19 : VM 19 (.retAddr 1) := ⟨wd_291, wd_292, by decide +kernel⟩
theorem gm_20 : GM 20 := ⟨wd_637, wd_14, cok_0, plainFor_of_name pncok_0, by decide +kernel⟩
theorem km_20 : VM 20 (.retAddr 2) := ⟨wd_635, wd_636, by decide +kernel⟩
theorem gm_21 : GM 21 := ⟨wd_629, wd_14, cok_0, plainFor_of_name pncok_0, by decide +kernel⟩
theorem km_21 : VM 21 (.retAddr 1) := ⟨wd_627, wd_628, by decide +kernel⟩
theorem gm_22 : GM 22 := ⟨wd_654, wd_14, cok_0, plainFor_of_name pncok_0, by decide +kernel⟩
theorem km_22 : VM 22 (.retAddr 2) := ⟨wd_652, wd_653, by decide +kernel⟩
theorem gm_23 : GM 23 := ⟨wd_695, wd_14, cok_0, plainFor_of_name pncok_0, by decide +kernel⟩
theorem km_23 : VM 23 (.retAddr 1) := ⟨wd_693, wd_694, by decide +kernel⟩
theorem gm_24 : GM 24 := ⟨wd_261, wd_14, cok_0, plainFor_of_name pncok_0, by decide +kernel⟩
theorem km_24 : SM 24 (.retAddr 3) := ⟨wd_260, by decide +kernel⟩
theorem gm_25 : GM 25 := ⟨wd_504, wd_14, cok_0, plainFor_of_name pncok_0, by decide +kernel⟩
theorem km_25 : SM 25 (.retAddr 1) := ⟨wd_503, by decide +kernel⟩
theorem gm_26 : GM 26 := ⟨wd_335, wd_14, cok_0, plainFor_of_name pncok_0, by decide +kernel⟩
theorem km_26 : SM 26 (.retAddr 2) := ⟨wd_334, by decide +kernel⟩
theorem gm_27 : GM 27 := ⟨wd_69, wd_14, cok_0, plainFor_of_name pncok_0, by decide +kernel⟩
theorem km_27 : SM 27 (.retAddr 2) := ⟨wd_68, by decide +kernel⟩
theorem gm_28 : GM 28 := ⟨wd_406, wd_14, cok_0, plainFor_of_name pncok_0, by decide +kernel⟩
theorem km_28 : SM 28 (.retAddr 1) := ⟨wd_405, by decide +kernel⟩
theorem gm_29 : GM 29 := ⟨wd_169, wd_18, cok_1, plainFor_of_name pncok_1, by decide +kernel⟩
theorem km_29 : IM 29 (.retAddr 1) := ⟨wd_168, rfl, rfl, by decide +kernel⟩
theorem gm_30 : GM 30 := ⟨wd_419, wd_18, cok_1, plainFor_of_name pncok_1, by decide +kernel⟩
theorem km_30 : VM 30 (.retAddr 3) := ⟨wd_417, wd_418, by decide +kernel⟩
theorem gm_31 : GM 31 := ⟨wd_431, wd_18, cok_1, plainFor_of_name pncok_1, by decide +kernel⟩
theorem km_31 : VM 31 (.retAddr 1) := ⟨wd_430, wd_1, by decide +kernel⟩
theorem gm_32 : GM 32 := ⟨wd_489, wd_18, cok_1, plainFor_of_name pncok_1, by decide +kernel⟩
theorem km_32 : VM 32 (.retAddr 2) := ⟨wd_488, wd_4, by decide +kernel⟩
theorem gm_33 : GM 33 := ⟨wd_435, wd_18, cok_1, plainFor_of_name pncok_1, by decide +kernel⟩
theorem km_33 : VM 33 (.retAddr 2) := ⟨wd_433, wd_434, by decide +kernel⟩
theorem gm_34 : GM 34 := ⟨wd_448, wd_18, cok_1, plainFor_of_name pncok_1, by decide +kernel⟩
theorem km_34 : VM 34 (.retAddr 2) := ⟨wd_447, wd_2, by decide +kernel⟩
theorem gm_35 : GM 35 := ⟨wd_464, wd_18, cok_1, plainFor_of_name pncok_1, by decide +kernel⟩
theorem km_35 : VM 35 (.retAddr 3) := ⟨wd_463, wd_3, by decide +kernel⟩
theorem gm_36 : GM 36 := ⟨wd_34, wd_15, cok_2, plainFor_of_name pncok_2, by decide +kernel⟩
theorem km_36 : IM 36 (.retAddr 1) := ⟨wd_33, rfl, rfl, by decide +kernel⟩
theorem gm_37 : GM 37 := ⟨wd_301, wd_15, cok_2, plainFor_of_name pncok_2, by decide +kernel⟩
theorem km_37 : SM 37 (.retAddr 2) := ⟨wd_300, by decide +kernel⟩
theorem gm_38 : GM 38 := ⟨wd_343, wd_15, cok_2, plainFor_of_name pncok_2, by decide +kernel⟩
theorem km_38 : VM 38 (.retAddr 2) := ⟨wd_341, wd_342, by decide +kernel⟩
theorem gm_39 : GM 39 := ⟨wd_277, wd_15, cok_2, plainFor_of_name pncok_2, by decide +kernel⟩
theorem km_39 : VM 39 (.retAddr 2) := ⟨wd_275, wd_276, by decide +kernel⟩
theorem gm_40 : GM 40 := ⟨wd_425, wd_15, cok_2, plainFor_of_name pncok_2, by decide +kernel⟩
theorem km_40 : VM 40 (.retAddr 1) := ⟨wd_423, wd_424, by decide +kernel⟩
theorem gm_41 : GM 41 := ⟨wd_372, wd_15, cok_2, plainFor_of_name pncok_2, by decide +kernel⟩
theorem km_41 : VM 41 (.retAddr 1) := ⟨wd_370, wd_371, by decide +kernel⟩
theorem gm_42 : GM 42 := ⟨wd_273, wd_15, cok_2, plainFor_of_name pncok_2, by decide +kernel⟩
theorem km_42 : VM 42 (.retAddr 2) := ⟨wd_271, wd_272, by decide +kernel⟩
theorem gm_43 : GM 43 := ⟨wd_265, wd_15, cok_2, plainFor_of_name pncok_2, by decide +kernel⟩
theorem km_43 : VM 43 (.retAddr 2) := ⟨wd_263, wd_264, by decide +kernel⟩
theorem gm_44 : GM 44 := ⟨wd_468, wd_15, cok_2, plainFor_of_name pncok_2, by decide +kernel⟩
theorem km_44 : VM 44 (.retAddr 2) := ⟨wd_466, wd_467, by decide +kernel⟩
theorem gm_45 : GM 45 := ⟨wd_328, wd_15, cok_2, plainFor_of_name pncok_2, by decide +kernel⟩
theorem km_45 : VM 45 (.retAddr 2) := ⟨wd_326, wd_327, by decide +kernel⟩
theorem gm_46 : GM 46 := ⟨wd_351, wd_15, cok_2, plainFor_of_name pncok_2, by decide +kernel⟩
theorem km_46 : VM 46 (.retAddr 3) := ⟨wd_349, wd_350, by decide +kernel⟩
theorem gm_47 : GM 47 := ⟨wd_269, wd_15, cok_2, plainFor_of_name pncok_2, by decide +kernel⟩
theorem km_47 : VM 47 (.retAddr 1) := ⟨wd_267, wd_268, by decide +kernel⟩
theorem gm_48 : GM 48 := ⟨wd_347, wd_15, cok_2, plainFor_of_name pncok_2, by decide +kernel⟩
theorem km_48 : VM 48 (.retAddr 2) := ⟨wd_345, wd_346, by decide +kernel⟩
theorem gm_49 : GM 49 := ⟨wd_401, wd_15, cok_2, plainFor_of_name pncok_2, by decide +kernel⟩
theorem km_49 : VM 49 (.retAddr 2) := ⟨wd_399, wd_400, by decide +kernel⟩
theorem gm_50 : GM 50 := ⟨wd_281, wd_15, cok_2, plainFor_of_name pncok_2, by decide +kernel⟩
theorem km_50 : VM 50 (.retAddr 1) := ⟨wd_279, wd_280, by decide +kernel⟩
theorem gm_51 : GM 51 := ⟨wd_285, wd_15, cok_2, plainFor_of_name pncok_2, by decide +kernel⟩
theorem km_51 : VM 51 (.retAddr 1) := ⟨wd_283, wd_284, by decide +kernel⟩
theorem gm_52 : GM 52 := ⟨wd_554, wd_15, cok_2, plainFor_of_name pncok_2, by decide +kernel⟩
theorem km_52 : VM 52 (.retAddr 1) := ⟨wd_552, wd_553, by decide +kernel⟩
theorem gm_53 : GM 53 := ⟨wd_573, wd_15, cok_2, plainFor_of_name pncok_2, by decide +kernel⟩
theorem km_53 : VM 53 (.retAddr 4) := ⟨wd_571, wd_572, by decide +kernel⟩
theorem gm_54 : GM 54 := ⟨wd_583, wd_15, cok_2, plainFor_of_name pncok_2, by decide +kernel⟩
theorem km_54 : VM 54 (.retAddr 3) := ⟨wd_581, wd_582, by decide +kernel⟩
theorem gm_55 : GM 55 := ⟨wd_593, wd_15, cok_2, plainFor_of_name pncok_2, by decide +kernel⟩
theorem km_55 : VM 55 (.retAddr 2) := ⟨wd_591, wd_592, by decide +kernel⟩
theorem gm_56 : GM 56 := ⟨wd_602, wd_15, cok_2, plainFor_of_name pncok_2, by decide +kernel⟩
theorem km_56 : VM 56 (.retAddr 1) := ⟨wd_600, wd_601, by decide +kernel⟩
theorem gm_57 : GM 57 := ⟨wd_611, wd_15, cok_2, plainFor_of_name pncok_2, by decide +kernel⟩
theorem km_57 : VM 57 (.retAddr 3) := ⟨wd_609, wd_610, by decide +kernel⟩
theorem gm_58 : GM 58 := ⟨wd_458, wd_15, cok_2, plainFor_of_name pncok_2, by decide +kernel⟩
theorem km_58 : VM 58 (.retAddr 2) := ⟨wd_456, wd_457, by decide +kernel⟩
theorem gm_59 : GM 59 := ⟨wd_476, wd_15, cok_2, plainFor_of_name pncok_2, by decide +kernel⟩
theorem km_59 : VM 59 (.retAddr 3) := ⟨wd_474, wd_475, by decide +kernel⟩
theorem gm_60 : GM 60 := ⟨wd_494, wd_15, cok_2, plainFor_of_name pncok_2, by decide +kernel⟩
theorem km_60 : VM 60 (.retAddr 2) := ⟨wd_492, wd_493, by decide +kernel⟩
theorem gm_61 : GM 61 := ⟨wd_484, wd_15, cok_2, plainFor_of_name pncok_2, by decide +kernel⟩
theorem km_61 : VM 61 (.retAddr 2) := ⟨wd_482, wd_483, by decide +kernel⟩
theorem gm_62 : GM 62 := ⟨wd_499, wd_15, cok_2, plainFor_of_name pncok_2, by decide +kernel⟩
theorem km_62 : VM 62 (.retAddr 2) := ⟨wd_497, wd_498, by decide +kernel⟩
theorem gm_63 : GM 63 := ⟨wd_152, wd_17, cok_3, plainFor_of_name pncok_3, by decide +kernel⟩
theorem km_63 : IM 63 (.retAddr 1) := ⟨wd_151, rfl, rfl, by decide +kernel⟩
theorem gm_64 : GM 64 := ⟨wd_550, wd_17, cok_3, plainFor_of_name pncok_3, by decide +kernel⟩
theorem km_64 : VM 64 (.retAddr 2) := ⟨wd_548, wd_549, by decide +kernel⟩
theorem gm_65 : GM 65 := ⟨wd_559, wd_17, cok_3, plainFor_of_name pncok_3, by decide +kernel⟩
theorem km_65 : VM 65 (.retAddr 2) := ⟨wd_557, wd_558, by decide +kernel⟩
theorem gm_66 : GM 66 := ⟨wd_564, wd_17, cok_3, plainFor_of_name pncok_3, by decide +kernel⟩
theorem km_66 : VM 66 (.retAddr 1) := ⟨wd_563, wd_6, by decide +kernel⟩
theorem gm_67 : GM 67 := ⟨wd_297, wd_17, cok_3, plainFor_of_name pncok_3, by decide +kernel⟩
theorem km_67 : VM 67 (.retAddr 2) := ⟨wd_295, wd_296, by decide +kernel⟩
theorem gm_68 : GM 68 := ⟨wd_204, wd_20, cok_4, plainFor_of_name pncok_4, by decide +kernel⟩
theorem km_68 : IM 68 (.retAddr 1) := ⟨wd_203, rfl, rfl, by decide +kernel⟩
theorem gm_69 : GM 69 := ⟨wd_641, wd_20, cok_4, plainFor_of_name pncok_4, by decide +kernel⟩
theorem km_69 : VM 69 (.retAddr 2) := ⟨wd_639, wd_640, by decide +kernel⟩
theorem gm_70 : GM 70 := ⟨wd_633, wd_20, cok_4, plainFor_of_name pncok_4, by decide +kernel⟩
theorem km_70 : VM 70 (.retAddr 1) := ⟨wd_631, wd_632, by decide +kernel⟩
theorem gm_71 : GM 71 := ⟨wd_658, wd_20, cok_4, plainFor_of_name pncok_4, by decide +kernel⟩
theorem km_71 : VM 71 (.retAddr 3) := ⟨wd_656, wd_657, by decide +kernel⟩
theorem gm_72 : GM 72 := ⟨wd_681, wd_20, cok_4, plainFor_of_name pncok_4, by decide +kernel⟩
theorem km_72 : VM 72 (.retAddr 4) := ⟨wd_680, wd_11, by decide +kernel⟩
theorem gm_73 : GM 73 := ⟨wd_685, wd_20, cok_4, plainFor_of_name pncok_4, by decide +kernel⟩
theorem km_73 : VM 73 (.retAddr 3) := ⟨wd_684, wd_12, by decide +kernel⟩
theorem gm_74 : GM 74 := ⟨wd_662, wd_20, cok_4, plainFor_of_name pncok_4, by decide +kernel⟩
theorem km_74 : VM 74 (.retAddr 2) := ⟨wd_661, wd_7, by decide +kernel⟩
theorem gm_75 : GM 75 := ⟨wd_669, wd_20, cok_4, plainFor_of_name pncok_4, by decide +kernel⟩
theorem km_75 : SM 75 (.retAddr 1) := ⟨wd_668, by decide +kernel⟩
theorem gm_76 : GM 76 := ⟨wd_666, wd_20, cok_4, plainFor_of_name pncok_4, by decide +kernel⟩
theorem km_76 : VM 76 (.retAddr 1) := ⟨wd_665, wd_8, by decide +kernel⟩
theorem gm_77 : GM 77 := ⟨wd_673, wd_20, cok_4, plainFor_of_name pncok_4, by decide +kernel⟩
theorem km_77 : VM 77 (.retAddr 2) := ⟨wd_672, wd_9, by decide +kernel⟩
theorem gm_78 : GM 78 := ⟨wd_677, wd_20, cok_4, plainFor_of_name pncok_4, by decide +kernel⟩
theorem km_78 : VM 78 (.retAddr 2) := ⟨wd_676, wd_10, by decide +kernel⟩
theorem gm_79 : GM 79 := ⟨wd_188, wd_19, cok_5, plainFor_of_name pncok_5, by decide +kernel⟩
theorem km_79 : IM 79 (.retAddr 1) := ⟨wd_187, rfl, rfl, by decide +kernel⟩
theorem gm_80 : GM 80 := ⟨wd_355, wd_19, cok_5, plainFor_of_name pncok_5, by decide +kernel⟩
theorem km_80 : VM 80 (.retAddr 3) := ⟨wd_353, wd_354, by decide +kernel⟩
theorem gm_81 : GM 81 := ⟨wd_362, wd_19, cok_5, plainFor_of_name pncok_5, by decide +kernel⟩
theorem km_81 : VM 81 (.retAddr 3) := ⟨wd_361, wd_0, by decide +kernel⟩
theorem gm_82 : GM 82 := ⟨wd_522, wd_19, cok_5, plainFor_of_name pncok_5, by decide +kernel⟩
theorem km_82 : VM 82 (.retAddr 2) := ⟨wd_520, wd_521, by decide +kernel⟩
theorem gm_83 : GM 83 := ⟨wd_528, wd_19, cok_5, plainFor_of_name pncok_5, by decide +kernel⟩
theorem km_83 : VM 83 (.retAddr 2) := ⟨wd_527, wd_5, by decide +kernel⟩
theorem gm_84 : GM 84 := ⟨wd_533, wd_19, cok_5, plainFor_of_name pncok_5, by decide +kernel⟩
theorem km_84 : SM 84 (.retAddr 3) := ⟨wd_532, by decide +kernel⟩
theorem gm_85 : GM 85 := ⟨wd_40, wd_16, cok_6, plainFor_of_name pncok_6, by decide +kernel⟩
theorem km_85 : IM 85 (.retAddr 1) := ⟨wd_39, rfl, rfl, by decide +kernel⟩
theorem gm_86 : GM 86 := ⟨wd_439, wd_16, cok_6, plainFor_of_name pncok_6, by decide +kernel⟩
theorem km_86 : VM 86 (.retAddr 1) := ⟨wd_437, wd_438, by decide +kernel⟩
theorem gm_87 : GM 87 := ⟨wd_472, wd_16, cok_6, plainFor_of_name pncok_6, by decide +kernel⟩
theorem km_87 : VM 87 (.retAddr 4) := ⟨wd_470, wd_471, by decide +kernel⟩
theorem gm_88 : GM 88 := ⟨wd_389, wd_16, cok_6, plainFor_of_name pncok_6, by decide +kernel⟩
theorem km_88 : VM 88 (.retAddr 2) := ⟨wd_387, wd_388, by decide +kernel⟩
theorem gm_89 : GM 89 := ⟨wd_443, wd_16, cok_6, plainFor_of_name pncok_6, by decide +kernel⟩
theorem km_89 : VM 89 (.retAddr 1) := ⟨wd_441, wd_442, by decide +kernel⟩
theorem gm_90 : GM 90 := ⟨wd_332, wd_16, cok_6, plainFor_of_name pncok_6, by decide +kernel⟩
theorem km_90 : VM 90 (.retAddr 2) := ⟨wd_330, wd_331, by decide +kernel⟩
theorem gm_91 : GM 91 := ⟨wd_376, wd_16, cok_6, plainFor_of_name pncok_6, by decide +kernel⟩
theorem km_91 : VM 91 (.retAddr 2) := ⟨wd_374, wd_375, by decide +kernel⟩
theorem gm_92 : GM 92 := ⟨wd_453, wd_16, cok_6, plainFor_of_name pncok_6, by decide +kernel⟩
theorem km_92 : VM 92 (.retAddr 2) := ⟨wd_451, wd_452, by decide +kernel⟩
theorem gm_93 : GM 93 := ⟨wd_304, wd_16, cok_6, plainFor_of_name pncok_6, by decide +kernel⟩
theorem km_93 : SM 93 (.retAddr 2) := ⟨wd_303, by decide +kernel⟩
theorem gm_94 : GM 94 := ⟨wd_308, wd_13, cok_7, plainFor_of_name pncok_7, by decide +kernel⟩
theorem km_94 : SM 94 (.retAddr 2) := ⟨wd_307, by decide +kernel⟩
theorem gm_95 : GM 95 := ⟨wd_312, wd_13, cok_7, plainFor_of_name pncok_7, by decide +kernel⟩
theorem km_95 : SM 95 (.retAddr 2) := ⟨wd_311, by decide +kernel⟩
theorem gm_96 : GM 96 := ⟨wd_316, wd_13, cok_7, plainFor_of_name pncok_7, by decide +kernel⟩
theorem km_96 : SM 96 (.retAddr 1) := ⟨wd_315, by decide +kernel⟩
theorem gm_97 : GM 97 := ⟨wd_392, wd_13, cok_7, plainFor_of_name pncok_7, by decide +kernel⟩
theorem km_97 : SM 97 (.retAddr 1) := ⟨wd_391, by decide +kernel⟩
theorem gm_98 : GM 98 := ⟨wd_410, wd_13, cok_7, plainFor_of_name pncok_7, by decide +kernel⟩
theorem km_98 : SM 98 (.retAddr 2) := ⟨wd_409, by decide +kernel⟩
theorem gm_99 : GM 99 := ⟨wd_647, wd_13, cok_7, plainFor_of_name pncok_7, by decide +kernel⟩
theorem km_99 : SM 99 (.retAddr 2) := ⟨wd_646, by decide +kernel⟩
theorem gm_100 : GM 100 := ⟨wd_625, wd_13, cok_7, plainFor_of_name pncok_7, by decide +kernel⟩
theorem km_100 : SM 100 (.retAddr 2) := ⟨wd_624, by decide +kernel⟩
theorem gm_101 : GM 101 := ⟨wd_650, wd_13, cok_7, plainFor_of_name pncok_7, by decide +kernel⟩
theorem km_101 : SM 101 (.retAddr 1) := ⟨wd_649, by decide +kernel⟩
theorem gm_102 : GM 102 := ⟨wd_618, wd_13, cok_7, plainFor_of_name pncok_7, by decide +kernel⟩
theorem km_102 : SM 102 (.retAddr 2) := ⟨wd_617, by decide +kernel⟩
theorem gm_103 : GM 103 := ⟨wd_542, wd_13, cok_7, plainFor_of_name pncok_7, by decide +kernel⟩
theorem km_103 : SM 103 (.retAddr 3) := ⟨wd_541, by decide +kernel⟩
theorem lk0_0 : allP (LkP 0) cd0_0 := ⟨wd_22, trivial, ⟨rfl, Or.inl wd_24, gm_1, km_1⟩, trivial, trivial, ⟨Or.inl wd_390, gm_97, km_97⟩, trivial, trivial, trivial, ⟨Or.inl wd_408, gm_98, km_98⟩, trivial, trivial, ⟨rfl, wd_290, gm_19, km_19⟩, wd_514, trivial, trivial, trivial, trivial, trivial, trivial, trivial, trivial, trivial, trivial, trivial, trivial, trivial, trivial, trivial, trivial, trivial, trivial, trivial, trivial, trivial, trivial, trivial, trivial, trivial, trivial, ⟨Or.inl wd_306, gm_94, km_94⟩, trivial, trivial, trivial, trivial, trivial, trivial, trivial, ⟨Or.inl wd_306, gm_94, km_94⟩, trivial, trivial⟩
theorem ck0_0 : cd0_0.all (good 0) = true := by decide +kernel
theorem lk0_1 : allP (LkP 0) cd0_1 := ⟨trivial, ⟨Or.inl wd_314, gm_96, km_96⟩, trivial, trivial, trivial, ⟨rfl, wd_255, gm_18, km_18⟩, trivial, trivial, trivial, trivial, ⟨Or.inl wd_540, gm_103, km_103⟩, trivial, trivial, trivial, trivial, trivial, trivial, ⟨Or.inl wd_390, gm_97, km_97⟩, trivial, trivial, trivial, trivial, trivial, trivial, trivial, trivial, ⟨Or.inl wd_408, gm_98, km_98⟩, trivial, trivial, trivial, trivial, trivial, trivial, trivial, ⟨rfl, wd_255, gm_18, km_18⟩, trivial, trivial, trivial, trivial, trivial, trivial, trivial, trivial, trivial, trivial, ⟨Or.inl wd_314, gm_96, km_96⟩, trivial, trivial, trivial, trivial, trivial⟩
theorem ck0_1 : cd0_1.all (good 0) = true := by decide +kernel
theorem lk0_2 : allP (LkP 0) cd0_2 := ⟨trivial, trivial, trivial, trivial, trivial, trivial, trivial, trivial, trivial, trivial, trivial, trivial, trivial, trivial, trivial, trivial, trivial, trivial, trivial, ⟨Or.inl wd_310, gm_95, km_95⟩, trivial, trivial, ⟨rfl, wd_290, gm_19, km_19⟩, trivial, trivial, trivial, ⟨Or.inl wd_314, gm_96, km_96⟩, trivial, trivial, trivial, trivial, trivial, trivial, trivial, trivial, trivial, trivial, trivial, trivial, trivial, trivial, trivial, trivial, ⟨rfl, wd_255, gm_18, km_18⟩, trivial, trivial, ⟨rfl, wd_290, gm_19, km_19⟩, trivial, trivial, wd_514, trivial⟩
theorem ck0_2 : cd0_2.all (good 0) = true := by decide +kernel
theorem lk0_3 : allP (LkP 0) cd0_3 := ⟨trivial, trivial, trivial, trivial, trivial, trivial, trivial, trivial, trivial, trivial, trivial, trivial, trivial, trivial, ⟨Or.inl wd_390, gm_97, km_97⟩, trivial, trivial, trivial, trivial, trivial, trivial⟩
theorem ck0_3 : cd0_3.all (good 0) = true := by decide +kernel
theorem lk0 : allP (LkP 0) cd0 := allP_app lk0_0 (allP_app lk0_1 (allP_app lk0_2 (lk0_3)))
theorem ck0 : cd0.all (good 0) = true := all_app ck0_0 (all_app ck0_1 (all_app ck0_2 (ck0_3)))
theorem lk1 : allP (LkP 1) cd1 := ⟨trivial, wd_27, trivial, wd_30, trivial, ⟨rfl, Or.inl wd_32, gm_36, km_36⟩, ⟨wd_236, ⟨rfl, rfl, rfl⟩⟩, trivial, wd_30, trivial, ⟨rfl, Or.inl wd_32, gm_36, km_36⟩, ⟨wd_237, ⟨rfl, rfl, rfl⟩⟩, trivial, wd_148, trivial, ⟨rfl, Or.inl wd_150, gm_63, km_63⟩, ⟨wd_238, ⟨rfl, rfl, rfl⟩⟩, trivial, wd_165, trivial, ⟨rfl, Or.inr wd_167, gm_29, km_29⟩, ⟨wd_239, ⟨rfl, rfl, rfl⟩⟩, trivial, wd_184, trivial, ⟨rfl, Or.inr wd_186, gm_79, km_79⟩, ⟨wd_240, ⟨rfl, rfl, rfl⟩⟩, trivial, wd_200, trivial, ⟨rfl, Or.inr wd_202, gm_68, km_68⟩, ⟨wd_241, ⟨rfl, rfl, rfl⟩⟩, trivial, trivial⟩
theorem ck1 : cd1.all (good 1) = true := by decide +kernel
theorem lk2 : allP (LkP 2) cd2 := ⟨trivial, wd_238, trivial, wd_236, ⟨rfl, wd_547, gm_64, km_64⟩, trivial, wd_238, trivial, wd_236, ⟨rfl, wd_551, gm_52, km_52⟩, ⟨rfl, wd_556, gm_65, km_65⟩, trivial, trivial⟩
theorem ck2 : cd2.all (good 2) = true := by decide +kernel
theorem lk3 : allP (LkP 3) cd3 := ⟨trivial, wd_238, trivial, wd_236, ⟨rfl, wd_547, gm_64, km_64⟩, trivial, wd_238, trivial, wd_236, trivial, trivial, trivial, ⟨rfl, wd_570, gm_53, km_53⟩, ⟨rfl, wd_556, gm_65, km_65⟩, trivial, trivial⟩
theorem ck3 : cd3.all (good 3) = true := by decide +kernel
theorem lk4 : allP (LkP 4) cd4 := ⟨trivial, wd_238, trivial, wd_236, ⟨rfl, wd_547, gm_64, km_64⟩, trivial, wd_238, trivial, wd_236, trivial, trivial, ⟨rfl, wd_580, gm_54, km_54⟩, ⟨rfl, wd_556, gm_65, km_65⟩, trivial, trivial⟩
theorem ck4 : cd4.all (good 4) = true := by decide +kernel
theorem lk5 : allP (LkP 5) cd5 := ⟨trivial, wd_238, trivial, wd_236, ⟨rfl, wd_547, gm_64, km_64⟩, trivial, wd_238, trivial, wd_236, trivial, ⟨rfl, wd_590, gm_55, km_55⟩, ⟨rfl, wd_556, gm_65, km_65⟩, trivial, trivial⟩
theorem ck5 : cd5.all (good 5) = true := by decide +kernel
theorem lk6 : allP (LkP 6) cd6 := ⟨trivial, wd_238, trivial, wd_236, ⟨rfl, wd_547, gm_64, km_64⟩, trivial, wd_238, trivial, wd_239, trivial, wd_236, trivial, ⟨rfl, wd_416, gm_30, km_30⟩, ⟨rfl, wd_556, gm_65, km_65⟩, trivial, trivial⟩
theorem ck6 : cd6.all (good 6) = true := by decide +kernel
theorem lk7 : allP (LkP 7) cd7 := ⟨trivial, wd_238, trivial, wd_236, ⟨rfl, wd_547, gm_64, km_64⟩, trivial, wd_238, trivial, wd_236, ⟨rfl, wd_599, gm_56, km_56⟩, ⟨rfl, wd_556, gm_65, km_65⟩, trivial, trivial⟩
theorem ck7 : cd7.all (good 7) = true := by decide +kernel
theorem lk8 : allP (LkP 8) cd8 := ⟨trivial, wd_238, trivial, wd_236, ⟨rfl, wd_547, gm_64, km_64⟩, trivial, wd_238, trivial, wd_236, trivial, trivial, ⟨rfl, wd_608, gm_57, km_57⟩, ⟨rfl, wd_556, gm_65, km_65⟩, trivial, trivial⟩
theorem ck8 : cd8.all (good 8) = true := by decide +kernel
theorem lk9_0 : allP (LkP 9) cd9_0 := ⟨trivial, wd_236, trivial, ⟨rfl, wd_323, gm_39, km_39⟩, trivial, wd_289, trivial, trivial, trivial, trivial, wd_236, wd_83, trivial, trivial, trivial, trivial, wd_236, wd_86, trivial, trivial, trivial, trivial, wd_236, wd_89, trivial, trivial, trivial, trivial, wd_236, wd_92, trivial, trivial, trivial, trivial, wd_236, trivial, ⟨rfl, wd_324, gm_42, km_42⟩, trivial, trivial, trivial, trivial, trivial, trivial, wd_236, trivial, ⟨rfl, wd_325, gm_45, km_45⟩, trivial, trivial, wd_236, wd_94, trivial⟩
theorem ck9_0 : cd9_0.all (good 9) = true := by decide +kernel
theorem lk9_1 : allP (LkP 9) cd9_1 := ⟨trivial, trivial, trivial, trivial, wd_236, wd_110, trivial, ⟨rfl, wd_329, gm_90, km_90⟩, trivial, trivial, trivial, trivial, trivial, wd_289, trivial, trivial⟩
theorem ck9_1 : cd9_1.all (good 9) = true := by decide +kernel
theorem lk9 : allP (LkP 9) cd9 := allP_app lk9_0 (lk9_1)
theorem ck9 : cd9.all (good 9) = true := all_app ck9_0 (ck9_1)
theorem lk10 : allP (LkP 10) cd10 := ⟨trivial, wd_236, trivial, ⟨rfl, wd_340, gm_38, km_38⟩, trivial, wd_289, trivial, trivial, trivial, trivial, wd_236, trivial, ⟨rfl, wd_344, gm_48, km_48⟩, trivial, trivial, wd_236, wd_74, trivial, trivial, trivial, trivial, wd_236, wd_76, trivial, trivial, trivial, trivial, wd_240, trivial, wd_236, trivial, ⟨rfl, wd_352, gm_80, km_80⟩, trivial, trivial, wd_236, ⟨rfl, wd_369, gm_41, km_41⟩, trivial, trivial, wd_236, wd_110, trivial, ⟨rfl, wd_373, gm_91, km_91⟩, trivial, trivial, trivial, trivial, trivial, wd_289, trivial, trivial⟩
theorem ck10 : cd10.all (good 10) = true := by decide +kernel
theorem lk11 : allP (LkP 11) cd11 := ⟨trivial, trivial, trivial, ⟨Or.inl wd_259, gm_24, km_24⟩, trivial, wd_289, trivial, trivial, wd_236, ⟨rfl, wd_369, gm_41, km_41⟩, trivial, wd_381, trivial, trivial, trivial, trivial, wd_236, wd_110, wd_48, trivial, trivial, wd_236, wd_110, wd_45, trivial, trivial, wd_236, wd_112, trivial, trivial, wd_236, wd_110, wd_51, trivial, trivial⟩
theorem ck11 : cd11.all (good 11) = true := by decide +kernel
theorem lk12 : allP (LkP 12) cd12 := ⟨trivial, trivial, wd_289, trivial, trivial, wd_236, ⟨rfl, wd_369, gm_41, km_41⟩, trivial, trivial, trivial, wd_236, wd_110, wd_45, trivial, wd_381, trivial, trivial, wd_236, wd_110, trivial, ⟨rfl, wd_386, gm_88, km_88⟩, trivial, trivial⟩
theorem ck12 : cd12.all (good 12) = true := by decide +kernel
theorem lk13 : allP (LkP 13) cd13 := ⟨trivial, wd_236, trivial, ⟨rfl, wd_340, gm_38, km_38⟩, trivial, trivial, wd_236, trivial, ⟨rfl, wd_323, gm_39, km_39⟩, trivial, wd_289, trivial, trivial, wd_236, trivial, ⟨rfl, wd_398, gm_49, km_49⟩, trivial, trivial, wd_236, trivial, trivial, ⟨rfl, wd_403, gm_46, km_46⟩, trivial, trivial, trivial, trivial, trivial, wd_381, trivial, trivial, wd_236, trivial, ⟨rfl, wd_325, gm_45, km_45⟩, trivial, trivial, trivial, trivial, ⟨Or.inl wd_404, gm_28, km_28⟩, trivial, trivial⟩
theorem ck13 : cd13.all (good 13) = true := by decide +kernel
theorem lk14 : allP (LkP 14) cd14 := ⟨trivial, trivial, trivial, ⟨Or.inl wd_259, gm_24, km_24⟩, trivial, wd_289, trivial, trivial, wd_236, ⟨rfl, wd_509, gm_40, km_40⟩, trivial, wd_510, trivial, trivial, wd_240, trivial, wd_236, ⟨rfl, wd_519, gm_82, km_82⟩, trivial, trivial, trivial, wd_240, wd_194, wd_48, trivial, trivial, wd_240, wd_194, wd_45, trivial, trivial, wd_240, wd_194, ⟨rfl, wd_512, gm_89, km_89⟩, trivial, wd_236, wd_99, trivial, trivial, trivial, trivial, trivial, trivial, wd_240, wd_194, ⟨rfl, wd_512, gm_89, km_89⟩, trivial, trivial⟩
theorem ck14 : cd14.all (good 14) = true := by decide +kernel
theorem lk15 : allP (LkP 15) cd15 := ⟨trivial, wd_240, trivial, wd_236, trivial, wd_236, wd_99, ⟨rfl, wd_352, gm_80, km_80⟩, trivial, trivial, wd_236, ⟨rfl, wd_369, gm_41, km_41⟩, trivial, trivial, wd_381, trivial, wd_381, trivial, trivial, wd_236, wd_110, wd_48, trivial, trivial, trivial, trivial⟩
theorem ck15 : cd15.all (good 15) = true := by decide +kernel
theorem lk16 : allP (LkP 16) cd16 := ⟨trivial, trivial, trivial, ⟨Or.inl wd_259, gm_24, km_24⟩, trivial, wd_289, trivial, trivial, wd_236, ⟨rfl, wd_509, gm_40, km_40⟩, trivial, wd_510, trivial, trivial, wd_236, trivial, wd_237, ⟨Or.inl wd_415, gm_37, km_37⟩, trivial, wd_239, trivial, wd_237, ⟨rfl, wd_511, gm_33, km_33⟩, trivial, trivial, trivial, trivial, trivial, trivial, wd_239, wd_174, wd_48, trivial, trivial, wd_239, wd_174, ⟨rfl, wd_512, gm_89, km_89⟩, trivial, trivial⟩
theorem ck16 : cd16.all (good 16) = true := by decide +kernel
theorem lk17 : allP (LkP 17) cd17 := ⟨trivial, trivial, trivial, ⟨Or.inl wd_259, gm_24, km_24⟩, trivial, wd_289, trivial, trivial, wd_236, trivial, wd_237, ⟨Or.inl wd_415, gm_37, km_37⟩, trivial, wd_239, trivial, wd_237, trivial, ⟨rfl, wd_416, gm_30, km_30⟩, trivial, trivial, ⟨Or.inl wd_502, gm_25, km_25⟩, trivial, trivial, trivial, trivial, trivial, trivial, trivial, trivial, wd_237, wd_108, trivial, trivial, trivial, wd_236, wd_108, trivial, trivial, trivial, trivial, trivial, wd_237, ⟨rfl, wd_369, gm_41, km_41⟩, trivial, trivial, wd_237, wd_110, wd_48, trivial, wd_381, trivial, trivial, wd_237, ⟨rfl, wd_278, gm_50, km_50⟩, trivial, trivial⟩
theorem ck17 : cd17.all (good 17) = true := by decide +kernel
theorem lk18_0 : allP (LkP 18) cd18_0 := ⟨trivial, trivial, trivial, ⟨Or.inl wd_259, gm_24, km_24⟩, trivial, trivial, wd_236, trivial, trivial, trivial, ⟨rfl, wd_262, gm_43, km_43⟩, trivial, trivial, trivial, trivial, wd_236, wd_72, trivial, trivial, wd_236, wd_80, trivial, trivial, wd_236, ⟨rfl, wd_266, gm_47, km_47⟩, trivial, trivial, wd_236, wd_105, trivial, trivial, wd_236, wd_108, trivial, trivial, trivial, wd_236, wd_108, trivial, trivial, trivial, trivial, wd_236, wd_108, trivial, trivial, trivial, trivial, trivial, wd_236, trivial⟩
theorem ck18_0 : cd18_0.all (good 18) = true := by decide +kernel
theorem lk18_1 : allP (LkP 18) cd18_1 := ⟨wd_108, trivial, trivial, trivial, trivial, wd_236, wd_108, trivial, trivial, trivial, trivial, wd_236, wd_108, trivial, trivial, trivial, trivial, wd_236, ⟨rfl, wd_278, gm_50, km_50⟩, trivial, trivial, wd_236, ⟨rfl, wd_282, gm_51, km_51⟩, trivial, trivial, wd_236, wd_99, trivial, trivial, wd_236, wd_101, trivial, trivial, wd_238, wd_159, trivial, trivial, wd_241, wd_208, trivial, wd_289, trivial, trivial⟩
theorem ck18_1 : cd18_1.all (good 18) = true := by decide +kernel
theorem lk18 : allP (LkP 18) cd18 := allP_app lk18_0 (lk18_1)
theorem ck18 : cd18.all (good 18) = true := all_app ck18_0 (ck18_1)
theorem lk19 : allP (LkP 19) cd19 := ⟨trivial, wd_238, trivial, wd_236, ⟨rfl, wd_294, gm_67, km_67⟩, trivial, trivial⟩
theorem ck19 : cd19.all (good 19) = true := by decide +kernel
theorem lk20 : allP (LkP 20) cd20 := ⟨trivial, wd_241, trivial, ⟨rfl, wd_638, gm_69, km_69⟩, trivial, trivial⟩
theorem ck20 : cd20.all (good 20) = true := by decide +kernel
theorem lk21 : allP (LkP 21) cd21 := ⟨trivial, wd_241, ⟨rfl, wd_630, gm_70, km_70⟩, trivial, trivial⟩
theorem ck21 : cd21.all (good 21) = true := by decide +kernel
theorem lk22 : allP (LkP 22) cd22 := ⟨trivial, trivial, trivial, ⟨Or.inl wd_259, gm_24, km_24⟩, trivial, wd_289, trivial, trivial, wd_236, trivial, wd_237, ⟨Or.inl wd_415, gm_37, km_37⟩, trivial, wd_241, trivial, wd_237, trivial, wd_239, ⟨rfl, wd_655, gm_71, km_71⟩, trivial, trivial, wd_241, wd_213, trivial, wd_381, trivial, trivial, trivial, trivial, wd_241, wd_215, trivial, trivial, wd_241, wd_213, trivial, trivial, wd_241, wd_217, trivial, trivial⟩
theorem ck22 : cd22.all (good 22) = true := by decide +kernel
theorem lk23 : allP (LkP 23) cd23 := ⟨trivial, wd_236, trivial, wd_237, ⟨Or.inl wd_415, gm_37, km_37⟩, trivial, wd_241, trivial, wd_237, trivial, wd_239, ⟨rfl, wd_655, gm_71, km_71⟩, trivial, trivial, wd_241, wd_213, trivial, wd_510, trivial, trivial, wd_238, trivial, wd_236, ⟨rfl, wd_547, gm_64, km_64⟩, trivial, wd_237, trivial, wd_236, ⟨Or.inl wd_415, gm_37, km_37⟩, trivial, wd_238, trivial, ⟨rfl, wd_556, gm_65, km_65⟩, trivial, trivial⟩
theorem ck23 : cd23.all (good 23) = true := by decide +kernel
theorem lk24 : allP (LkP 24) cd24 := ⟨trivial, trivial, trivial, trivial, trivial, trivial, trivial, trivial, trivial, trivial, trivial⟩
theorem ck24 : cd24.all (good 24) = true := by decide +kernel
theorem lk25 : allP (LkP 25) cd25 := ⟨trivial, wd_289, trivial, trivial, trivial, trivial, trivial, trivial⟩
theorem ck25 : cd25.all (good 25) = true := by decide +kernel
theorem lk26 : allP (LkP 26) cd26 := ⟨trivial, trivial, trivial, trivial, trivial, trivial, trivial, trivial, trivial, trivial, trivial, trivial⟩
theorem ck26 : cd26.all (good 26) = true := by decide +kernel
theorem lk27 : allP (LkP 27) cd27 := ⟨trivial, trivial, trivial, trivial, trivial, trivial, trivial, trivial, trivial, trivial, trivial, trivial, trivial, trivial, trivial, trivial, trivial, trivial, trivial, trivial⟩
theorem ck27 : cd27.all (good 27) = true := by decide +kernel
theorem lk28 : allP (LkP 28) cd28 := ⟨trivial, trivial, trivial, trivial, trivial, trivial, trivial, trivial, trivial, trivial, trivial, trivial, trivial, trivial, trivial, trivial, trivial, trivial, trivial, trivial, wd_407, trivial, trivial, trivial, trivial, trivial, trivial, trivial, trivial, trivial, trivial⟩
theorem ck28 : cd28.all (good 28) = true := by decide +kernel
theorem lk29 : allP (LkP 29) cd29 := ⟨trivial, wd_170, trivial, wd_171, trivial, ⟨rfl, Or.inr wd_172, gm_85, km_85⟩, ⟨wd_173, ⟨rfl, rfl, rfl⟩⟩, trivial, trivial, trivial, ⟨wd_175, ⟨rfl, rfl, rfl⟩⟩, trivial, trivial, trivial, ⟨wd_176, ⟨rfl, rfl, rfl⟩⟩, trivial, trivial⟩
theorem ck29 : cd29.all (good 29) = true := by decide +kernel
theorem lk30_0 : allP (LkP 30) cd30_0 := ⟨trivial, trivial, trivial, ⟨Or.inr wd_420, gm_24, km_24⟩, trivial, wd_421, trivial, trivial, ⟨rfl, wd_422, gm_40, km_40⟩, trivial, wd_426, trivial, trivial, wd_107, trivial, trivial, trivial, trivial, trivial, ⟨rfl, wd_427, gm_43, km_43⟩, trivial, trivial, trivial, trivial, trivial, trivial, trivial, ⟨rfl, wd_428, gm_31, km_31⟩, trivial, trivial, trivial, trivial, trivial, trivial, trivial, ⟨rfl, wd_432, gm_33, km_33⟩, trivial, trivial, trivial, wd_173, trivial, ⟨rfl, wd_473, gm_59, km_59⟩, trivial, trivial, trivial, trivial, trivial, wd_173, ⟨rfl, wd_481, gm_61, km_61⟩, ⟨rfl, wd_486, gm_32, km_32⟩, trivial⟩
theorem ck30_0 : cd30_0.all (good 30) = true := by decide +kernel
theorem lk30_1 : allP (LkP 30) cd30_1 := ⟨trivial, trivial, wd_173, ⟨rfl, wd_491, gm_60, km_60⟩, trivial, trivial, trivial, trivial, wd_175, ⟨rfl, wd_496, gm_62, km_62⟩, trivial, trivial, wd_104, trivial, trivial, ⟨wd_104, trivial⟩, trivial, trivial, trivial, wd_107, trivial, trivial, trivial, trivial, trivial, trivial⟩
theorem ck30_1 : cd30_1.all (good 30) = true := by decide +kernel
theorem lk30 : allP (LkP 30) cd30 := allP_app lk30_0 (lk30_1)
theorem ck30 : cd30.all (good 30) = true := all_app ck30_0 (ck30_1)
theorem lk31 : allP (LkP 31) cd31 := ⟨trivial, trivial, trivial, trivial, wd_175, trivial, trivial, trivial, wd_175, trivial, trivial, trivial, trivial, trivial, trivial, trivial⟩
theorem ck31 : cd31.all (good 31) = true := by decide +kernel
theorem lk32 : allP (LkP 32) cd32 := ⟨trivial, trivial, trivial, trivial, wd_175, trivial, trivial, trivial, wd_175, trivial, trivial, trivial, trivial, wd_173, trivial, ⟨rfl, wd_490, gm_90, km_90⟩, trivial, trivial, trivial, trivial, trivial, trivial, trivial, trivial, trivial, trivial⟩
theorem ck32 : cd32.all (good 32) = true := by decide +kernel
theorem lk33 : allP (LkP 33) cd33 := ⟨trivial, wd_173, ⟨rfl, wd_436, gm_86, km_86⟩, trivial, trivial, trivial, trivial, trivial, trivial, wd_173, ⟨rfl, wd_440, gm_89, km_89⟩, trivial, wd_98, trivial, trivial, trivial, ⟨rfl, wd_445, gm_34, km_34⟩, trivial, trivial, trivial, trivial, trivial, trivial, trivial, trivial, trivial, ⟨rfl, wd_455, gm_58, km_58⟩, ⟨rfl, wd_461, gm_35, km_35⟩, trivial, trivial, trivial, ⟨rfl, wd_465, gm_44, km_44⟩, trivial, trivial, wd_173, wd_47, trivial, trivial, trivial, trivial, ⟨rfl, wd_427, gm_43, km_43⟩, trivial, trivial, trivial, trivial, wd_173, trivial, trivial, trivial, trivial, wd_173, ⟨rfl, wd_440, gm_89, km_89⟩, ⟨rfl, wd_449, gm_46, km_46⟩, trivial, ⟨rfl, wd_469, gm_87, km_87⟩, trivial, trivial, trivial, trivial, trivial⟩
theorem ck33 : cd33.all (good 33) = true := by decide +kernel
theorem lk34 : allP (LkP 34) cd34 := ⟨trivial, wd_173, ⟨rfl, wd_440, gm_89, km_89⟩, trivial, trivial, trivial, trivial, trivial, trivial, trivial, wd_79, trivial, trivial, trivial, wd_176, trivial, trivial, trivial, wd_176, trivial, trivial, wd_173, trivial, trivial, trivial, ⟨rfl, wd_449, gm_46, km_46⟩, ⟨rfl, wd_450, gm_92, km_92⟩, trivial, trivial, trivial, ⟨rfl, wd_454, gm_45, km_45⟩, trivial, trivial, trivial, trivial, trivial, wd_176, trivial, trivial, trivial, trivial, trivial, trivial, trivial, trivial, trivial⟩
theorem ck34 : cd34.all (good 34) = true := by decide +kernel
theorem lk35 : allP (LkP 35) cd35 := ⟨trivial, trivial, trivial, trivial, trivial, trivial, wd_79, trivial, trivial, trivial, wd_176, trivial, trivial, trivial, trivial, wd_176, trivial, trivial, trivial, trivial, trivial, trivial, trivial, trivial, trivial, trivial, trivial, trivial, trivial⟩
theorem ck35 : cd35.all (good 35) = true := by decide +kernel
theorem lk36_0 : allP (LkP 36) cd36_0 := ⟨trivial, wd_35, trivial, trivial, ⟨wd_70, trivial⟩, trivial, trivial, trivial, ⟨wd_73, ⟨rfl, rfl, rfl⟩⟩, trivial, trivial, trivial, ⟨wd_75, ⟨rfl, rfl, rfl⟩⟩, trivial, trivial, ⟨wd_77, trivial⟩, trivial, trivial, trivial, ⟨wd_81, ⟨rfl, rfl, rfl⟩⟩, trivial, trivial, trivial, ⟨wd_84, ⟨rfl, rfl, rfl⟩⟩, trivial, trivial, trivial, ⟨wd_87, ⟨rfl, rfl, rfl⟩⟩, trivial, trivial, trivial, ⟨wd_90, ⟨rfl, rfl, rfl⟩⟩, trivial, trivial, trivial, ⟨wd_93, ⟨rfl, rfl, rfl⟩⟩, trivial, trivial, trivial, ⟨wd_95, ⟨rfl, rfl, rfl⟩⟩, trivial, trivial, ⟨wd_96, trivial⟩, trivial, trivial, ⟨wd_100, trivial⟩, trivial, trivial, trivial, ⟨wd_102, ⟨rfl, rfl, rfl⟩⟩, trivial⟩
theorem ck36_0 : cd36_0.all (good 36) = true := by decide +kernel
theorem lk36_1 : allP (LkP 36) cd36_1 := ⟨trivial, trivial, ⟨wd_103, trivial⟩, trivial, trivial, trivial, ⟨wd_106, ⟨rfl, rfl, rfl⟩⟩, trivial, wd_36, trivial, ⟨rfl, Or.inr wd_38, gm_85, km_85⟩, ⟨wd_109, ⟨rfl, rfl, rfl⟩⟩, trivial, trivial, ⟨wd_111, trivial⟩, wd_65, trivial, wd_102, ⟨Or.inr wd_67, gm_27, km_27⟩, trivial, trivial⟩
theorem ck36_1 : cd36_1.all (good 36) = true := by decide +kernel
theorem lk36 : allP (LkP 36) cd36 := allP_app lk36_0 (lk36_1)
theorem ck36 : cd36.all (good 36) = true := all_app ck36_0 (ck36_1)
theorem lk37_0 : allP (LkP 37) cd37_0 := ⟨trivial, trivial, trivial, trivial, trivial, trivial, trivial, wd_70, ⟨wd_70, trivial⟩, trivial, wd_73, trivial, wd_73, ⟨Or.inr wd_67, gm_27, km_27⟩, trivial, wd_75, trivial, wd_75, ⟨Or.inr wd_67, gm_27, km_27⟩, trivial, trivial, wd_77, ⟨wd_77, trivial⟩, trivial, wd_81, trivial, wd_81, ⟨Or.inr wd_67, gm_27, km_27⟩, trivial, wd_84, trivial, wd_84, ⟨Or.inr wd_67, gm_27, km_27⟩, trivial, wd_87, trivial, wd_87, ⟨Or.inr wd_67, gm_27, km_27⟩, trivial, wd_90, trivial, wd_90, ⟨Or.inr wd_67, gm_27, km_27⟩, trivial, wd_93, trivial, wd_93, ⟨Or.inr wd_67, gm_27, km_27⟩, trivial, wd_95, trivial⟩
theorem ck37_0 : cd37_0.all (good 37) = true := by decide +kernel
theorem lk37_1 : allP (LkP 37) cd37_1 := ⟨trivial, wd_95, ⟨Or.inr wd_67, gm_27, km_27⟩, trivial, trivial, wd_96, ⟨wd_96, trivial⟩, trivial, trivial, wd_100, ⟨wd_100, trivial⟩, trivial, wd_102, trivial, wd_102, ⟨Or.inr wd_67, gm_27, km_27⟩, trivial, trivial, wd_103, ⟨wd_103, trivial⟩, trivial, wd_106, trivial, wd_106, ⟨Or.inr wd_67, gm_27, km_27⟩, trivial, wd_109, trivial, wd_109, ⟨Or.inl wd_302, gm_93, km_93⟩, trivial, trivial, wd_111, ⟨wd_111, trivial⟩, trivial, trivial⟩
theorem ck37_1 : cd37_1.all (good 37) = true := by decide +kernel
theorem lk37 : allP (LkP 37) cd37 := allP_app lk37_0 (lk37_1)
theorem ck37 : cd37.all (good 37) = true := all_app ck37_0 (ck37_1)
theorem lk38 : allP (LkP 38) cd38 := ⟨trivial, trivial, trivial, trivial, wd_70, trivial, trivial, trivial, trivial, trivial, trivial, trivial, trivial, trivial⟩
theorem ck38 : cd38.all (good 38) = true := by decide +kernel
theorem lk39 : allP (LkP 39) cd39 := ⟨trivial, trivial, trivial, trivial, wd_77, trivial, trivial, trivial, trivial, trivial, trivial, trivial, trivial, trivial⟩
theorem ck39 : cd39.all (good 39) = true := by decide +kernel
theorem lk40 : allP (LkP 40) cd40 := ⟨trivial, wd_70, trivial, trivial, trivial, trivial, trivial, trivial, trivial⟩
theorem ck40 : cd40.all (good 40) = true := by decide +kernel
theorem lk41 : allP (LkP 41) cd41 := ⟨trivial, wd_109, wd_44, trivial, trivial, trivial, trivial, trivial, trivial⟩
theorem ck41 : cd41.all (good 41) = true := by decide +kernel
theorem lk42 : allP (LkP 42) cd42 := ⟨trivial, trivial, ⟨rfl, wd_274, gm_39, km_39⟩, trivial, trivial, wd_95, trivial, trivial, trivial, trivial, trivial, trivial, trivial, trivial, trivial⟩
theorem ck42 : cd42.all (good 42) = true := by decide +kernel
theorem lk43 : allP (LkP 43) cd43 := ⟨trivial, trivial, trivial, trivial, wd_102, trivial, trivial, trivial, wd_102, trivial, trivial, trivial, trivial, trivial, trivial⟩
theorem ck43 : cd43.all (good 43) = true := by decide +kernel
theorem lk44 : allP (LkP 44) cd44 := ⟨trivial, trivial, ⟨rfl, wd_274, gm_39, km_39⟩, trivial, trivial, wd_87, trivial, trivial, trivial, trivial, trivial, trivial⟩
theorem ck44 : cd44.all (good 44) = true := by decide +kernel
theorem lk45 : allP (LkP 45) cd45 := ⟨trivial, trivial, ⟨rfl, wd_274, gm_39, km_39⟩, trivial, trivial, wd_87, trivial, trivial, trivial, trivial, trivial, trivial, trivial, wd_90, trivial, trivial, trivial, trivial, trivial, wd_87, trivial, trivial, trivial, trivial, trivial, trivial, trivial⟩
theorem ck45 : cd45.all (good 45) = true := by decide +kernel
theorem lk46 : allP (LkP 46) cd46 := ⟨trivial, trivial, ⟨rfl, wd_274, gm_39, km_39⟩, trivial, trivial, wd_95, trivial, trivial, trivial, trivial, trivial, trivial, trivial, wd_81, trivial, trivial, trivial, trivial, trivial, wd_84, trivial, trivial, trivial, trivial, wd_84, trivial, trivial, trivial, trivial, trivial, wd_81, trivial, trivial, trivial, trivial, trivial, trivial⟩
theorem ck46 : cd46.all (good 46) = true := by decide +kernel
theorem lk47 : allP (LkP 47) cd47 := ⟨trivial, trivial, trivial, trivial, trivial, trivial, wd_77, trivial, trivial, trivial, trivial, ⟨rfl, wd_270, gm_42, km_42⟩, trivial, trivial, trivial, trivial, trivial, trivial, trivial, trivial, trivial, trivial, trivial⟩
theorem ck47 : cd47.all (good 47) = true := by decide +kernel
theorem lk48 : allP (LkP 48) cd48 := ⟨trivial, trivial, trivial, trivial, trivial, trivial, wd_77, trivial, trivial, trivial, trivial, trivial, ⟨rfl, wd_348, gm_46, km_46⟩, trivial, trivial, trivial, trivial, trivial, trivial, trivial, trivial, trivial, trivial, trivial, trivial⟩
theorem ck48 : cd48.all (good 48) = true := by decide +kernel
theorem lk49 : allP (LkP 49) cd49 := ⟨trivial, trivial, trivial, trivial, trivial, trivial, wd_77, trivial, trivial, trivial, trivial, trivial, ⟨rfl, wd_348, gm_46, km_46⟩, trivial, trivial, trivial, trivial, trivial, trivial, ⟨rfl, wd_402, gm_45, km_45⟩, trivial, trivial, trivial, trivial, trivial, trivial, trivial⟩
theorem ck49 : cd49.all (good 49) = true := by decide +kernel
theorem lk50 : allP (LkP 50) cd50 := ⟨trivial, trivial, trivial, trivial, trivial, trivial, wd_77, trivial, trivial, trivial, wd_90, trivial, trivial, trivial, trivial, wd_90, trivial, trivial, trivial, trivial, trivial, trivial, trivial, trivial, trivial⟩
theorem ck50 : cd50.all (good 50) = true := by decide +kernel
theorem lk51 : allP (LkP 51) cd51 := ⟨trivial, trivial, trivial, trivial, trivial, trivial, wd_77, trivial, trivial, trivial, wd_90, trivial, trivial, trivial, trivial, wd_90, trivial, trivial, wd_286, trivial, trivial, trivial, trivial, trivial, trivial⟩
theorem ck51 : cd51.all (good 51) = true := by decide +kernel
theorem lk52 : allP (LkP 52) cd52 := ⟨trivial, wd_70, trivial, trivial, wd_555, trivial, trivial, trivial, wd_70, trivial, trivial, ⟨wd_70, trivial⟩, trivial, wd_70, trivial, trivial, trivial, trivial⟩
theorem ck52 : cd52.all (good 52) = true := by decide +kernel
theorem lk53 : allP (LkP 53) cd53 := ⟨trivial, trivial, ⟨rfl, wd_480, gm_38, km_38⟩, trivial, trivial, trivial, ⟨rfl, wd_480, gm_38, km_38⟩, trivial, trivial, trivial, trivial, trivial, trivial, trivial, ⟨Or.inr wd_574, gm_24, km_24⟩, trivial, wd_575, trivial, trivial, wd_77, trivial, trivial, wd_77, trivial, trivial, wd_555, trivial, trivial, wd_77, trivial, trivial, wd_81, trivial, trivial, trivial, trivial, wd_84, trivial, trivial, trivial, trivial, wd_87, trivial, trivial, trivial, trivial, wd_90, trivial, trivial, trivial, ⟨rfl, wd_485, gm_43, km_43⟩, trivial, trivial, trivial, wd_77, trivial, trivial, ⟨wd_77, trivial⟩, trivial, trivial, trivial⟩
theorem ck53 : cd53.all (good 53) = true := by decide +kernel
theorem lk54 : allP (LkP 54) cd54 := ⟨trivial, trivial, ⟨rfl, wd_274, gm_39, km_39⟩, trivial, wd_575, trivial, trivial, trivial, ⟨rfl, wd_270, gm_42, km_42⟩, trivial, trivial, wd_584, trivial, trivial, wd_95, trivial, trivial, trivial, trivial, trivial, trivial, trivial, trivial, ⟨rfl, wd_585, gm_47, km_47⟩, trivial, trivial⟩
theorem ck54 : cd54.all (good 54) = true := by decide +kernel
theorem lk55 : allP (LkP 55) cd55 := ⟨trivial, trivial, trivial, trivial, ⟨rfl, wd_480, gm_38, km_38⟩, trivial, wd_575, trivial, trivial, trivial, wd_96, trivial, wd_584, trivial, trivial, wd_96, trivial, trivial, trivial, ⟨wd_96, trivial⟩, trivial, wd_109, ⟨rfl, wd_594, gm_86, km_86⟩, trivial, trivial, trivial⟩
theorem ck55 : cd55.all (good 55) = true := by decide +kernel
theorem lk56 : allP (LkP 56) cd56 := ⟨trivial, ⟨rfl, wd_603, gm_50, km_50⟩, trivial, trivial, trivial, trivial, trivial, wd_77, trivial, trivial, trivial, wd_90, trivial, trivial, trivial, wd_90, trivial, trivial, trivial, ⟨rfl, wd_485, gm_43, km_43⟩, trivial, trivial, trivial, trivial, wd_109, ⟨rfl, wd_594, gm_86, km_86⟩, trivial, trivial, ⟨rfl, wd_603, gm_50, km_50⟩, trivial, trivial, trivial⟩
theorem ck56 : cd56.all (good 56) = true := by decide +kernel
theorem lk57 : allP (LkP 57) cd57 := ⟨trivial, trivial, trivial, ⟨Or.inr wd_574, gm_24, km_24⟩, trivial, trivial, wd_612, trivial, trivial, wd_614, trivial, trivial, ⟨Or.inr wd_574, gm_24, km_24⟩, trivial, wd_575, trivial, trivial, wd_102, trivial, trivial, trivial, trivial, wd_102, trivial, trivial, trivial, trivial, trivial, trivial⟩
theorem ck57 : cd57.all (good 57) = true := by decide +kernel
theorem lk58 : allP (LkP 58) cd58 := ⟨trivial, trivial, trivial, trivial, trivial, trivial, trivial, wd_100, trivial, wd_459, trivial, wd_460, trivial, trivial, ⟨wd_100, trivial⟩, trivial, wd_100, trivial, trivial, trivial, trivial⟩
theorem ck58 : cd58.all (good 58) = true := by decide +kernel
theorem lk59_0 : allP (LkP 59) cd59_0 := ⟨trivial, trivial, trivial, trivial, wd_93, trivial, trivial, trivial, wd_93, trivial, trivial, trivial, trivial, trivial, ⟨rfl, wd_477, gm_90, km_90⟩, trivial, trivial, trivial, trivial, trivial, trivial, trivial, trivial, trivial, trivial, trivial, trivial, wd_73, trivial, trivial, trivial, wd_73, trivial, trivial, trivial, trivial, trivial, ⟨rfl, wd_478, gm_91, km_91⟩, trivial, trivial, trivial, trivial, trivial, trivial, trivial, trivial, trivial, trivial, trivial, trivial, trivial⟩
theorem ck59_0 : cd59_0.all (good 59) = true := by decide +kernel
theorem lk59_1 : allP (LkP 59) cd59_1 := ⟨wd_106, trivial, trivial, trivial, wd_106, trivial, trivial, trivial, trivial, trivial, trivial, trivial, ⟨rfl, wd_479, gm_89, km_89⟩, trivial, trivial, trivial, trivial, trivial, trivial, ⟨rfl, wd_480, gm_38, km_38⟩, trivial, trivial, wd_75, trivial, trivial, trivial, trivial, trivial, trivial, trivial, trivial⟩
theorem ck59_1 : cd59_1.all (good 59) = true := by decide +kernel
theorem lk59 : allP (LkP 59) cd59 := allP_app lk59_0 (lk59_1)
theorem ck59 : cd59.all (good 59) = true := all_app ck59_0 (ck59_1)
theorem lk60 : allP (LkP 60) cd60 := ⟨trivial, ⟨rfl, wd_495, gm_41, km_41⟩, trivial, trivial, wd_49, trivial, wd_109, wd_49, trivial, trivial, trivial, wd_109, ⟨Or.inl wd_302, gm_93, km_93⟩, trivial, trivial, wd_103, ⟨wd_111, trivial⟩, trivial, trivial⟩
theorem ck60 : cd60.all (good 60) = true := by decide +kernel
theorem lk61 : allP (LkP 61) cd61 := ⟨trivial, wd_49, trivial, trivial, trivial, trivial, trivial, trivial, ⟨rfl, wd_485, gm_43, km_43⟩, trivial, wd_49, trivial, trivial, trivial⟩
theorem ck61 : cd61.all (good 61) = true := by decide +kernel
theorem lk62_0 : allP (LkP 62) cd62_0 := ⟨trivial, ⟨rfl, wd_495, gm_41, km_41⟩, trivial, trivial, trivial, ⟨rfl, wd_485, gm_43, km_43⟩, trivial, trivial, wd_109, ⟨rfl, wd_500, gm_61, km_61⟩, trivial, trivial, trivial, trivial, trivial, trivial, trivial, trivial, wd_77, trivial, trivial, trivial, wd_90, trivial, trivial, trivial, trivial, trivial, trivial, trivial, wd_90, trivial, trivial, trivial, wd_90, trivial, trivial, trivial, trivial, ⟨rfl, wd_485, gm_43, km_43⟩, trivial, trivial, trivial, trivial, trivial, trivial, trivial, trivial, trivial, trivial, trivial⟩
theorem ck62_0 : cd62_0.all (good 62) = true := by decide +kernel
theorem lk62_1 : allP (LkP 62) cd62_1 := ⟨trivial, wd_109, trivial, ⟨rfl, wd_477, gm_90, km_90⟩, trivial, trivial, trivial, trivial, trivial, trivial, trivial, wd_90, trivial, trivial, trivial, trivial, ⟨rfl, wd_485, gm_43, km_43⟩, wd_286, trivial, trivial, ⟨rfl, wd_485, gm_43, km_43⟩, wd_501, trivial, trivial, trivial, trivial, trivial⟩
theorem ck62_1 : cd62_1.all (good 62) = true := by decide +kernel
theorem lk62 : allP (LkP 62) cd62 := allP_app lk62_0 (lk62_1)
theorem ck62 : cd62.all (good 62) = true := all_app ck62_0 (ck62_1)
theorem lk63 : allP (LkP 63) cd63 := ⟨trivial, wd_153, trivial, trivial, wd_154, ⟨wd_157, ⟨rfl, rfl, rfl⟩⟩, trivial, trivial, ⟨wd_158, trivial⟩, trivial, trivial, trivial, trivial, wd_157, trivial, trivial, trivial, wd_157, trivial, wd_154, trivial, ⟨rfl, Or.inl wd_156, gm_36, km_36⟩, trivial, trivial, trivial, trivial, trivial⟩
theorem ck63 : cd63.all (good 63) = true := by decide +kernel
theorem lk64 : allP (LkP 64) cd64 := ⟨trivial, wd_158, trivial, trivial, wd_158, trivial, wd_157, trivial, trivial, trivial, trivial, wd_157, trivial, wd_158, trivial, ⟨Or.inl wd_299, gm_37, km_37⟩, trivial, trivial⟩
theorem ck64 : cd64.all (good 64) = true := by decide +kernel
theorem lk65 : allP (LkP 65) cd65 := ⟨trivial, ⟨Or.inr wd_560, gm_25, km_25⟩, trivial, trivial, trivial, wd_158, trivial, trivial, ⟨wd_158, trivial⟩, trivial, wd_158, trivial, trivial, trivial, ⟨rfl, wd_561, gm_66, km_66⟩, trivial, trivial, trivial⟩
theorem ck65 : cd65.all (good 65) = true := by decide +kernel
theorem lk66 : allP (LkP 66) cd66 := ⟨trivial, wd_157, trivial, trivial, trivial, trivial, trivial, trivial, trivial, wd_157, trivial, trivial, trivial, wd_157, trivial, trivial, trivial, trivial, wd_157, trivial, trivial, trivial, trivial, trivial, trivial, wd_157, trivial, wd_157, trivial, trivial, trivial, trivial, trivial, trivial, trivial, wd_158, trivial, trivial, ⟨wd_158, trivial⟩, trivial, trivial⟩
theorem ck66 : cd66.all (good 66) = true := by decide +kernel
theorem lk67 : allP (LkP 67) cd67 := ⟨trivial, wd_158, trivial, trivial, trivial, wd_158, trivial, wd_157, trivial, trivial, wd_298, trivial, trivial, trivial, wd_158, trivial, trivial, ⟨wd_158, trivial⟩, trivial, wd_157, trivial, wd_158, trivial, trivial, ⟨Or.inl wd_299, gm_37, km_37⟩, trivial, wd_158, trivial, trivial⟩
theorem ck67 : cd67.all (good 67) = true := by decide +kernel
theorem lk68 : allP (LkP 68) cd68 := ⟨trivial, wd_205, trivial, trivial, trivial, ⟨wd_206, ⟨rfl, rfl, rfl⟩⟩, trivial, trivial, ⟨wd_207, trivial⟩, trivial, trivial, ⟨wd_209, trivial⟩, trivial, trivial, trivial, ⟨wd_210, ⟨rfl, rfl, rfl⟩⟩, trivial, trivial, ⟨wd_211, trivial⟩, trivial, trivial, ⟨wd_212, trivial⟩, trivial, trivial, ⟨wd_214, trivial⟩, trivial, trivial, ⟨wd_216, trivial⟩, trivial, trivial⟩
theorem ck68 : cd68.all (good 68) = true := by decide +kernel
theorem lk69 : allP (LkP 69) cd69 := ⟨trivial, trivial, trivial, ⟨Or.inr wd_642, gm_24, km_24⟩, trivial, wd_643, trivial, trivial, wd_207, trivial, trivial, wd_207, trivial, wd_206, trivial, trivial, wd_644, trivial, trivial, wd_206, trivial, wd_207, trivial, trivial, trivial, trivial, trivial, wd_207, trivial, trivial, ⟨wd_207, trivial⟩, trivial, wd_207, trivial, trivial⟩
theorem ck69 : cd69.all (good 69) = true := by decide +kernel
theorem lk70 : allP (LkP 70) cd70 := ⟨trivial, wd_207, trivial, trivial, trivial, ⟨wd_207, trivial⟩, trivial, trivial, trivial⟩
theorem ck70 : cd70.all (good 70) = true := by decide +kernel
theorem lk71 : allP (LkP 71) cd71 := ⟨trivial, trivial, ⟨wd_212, trivial⟩, trivial, trivial, trivial, trivial, trivial, trivial, wd_207, trivial, trivial, trivial, trivial, trivial, trivial, ⟨rfl, wd_659, gm_74, km_74⟩, trivial, trivial, trivial, trivial, trivial, wd_211, trivial, trivial, ⟨rfl, wd_678, gm_72, km_72⟩, trivial, trivial, trivial, trivial, trivial, ⟨rfl, wd_682, gm_73, km_73⟩, trivial, trivial, ⟨Or.inr wd_691, gm_25, km_25⟩, trivial, trivial, trivial, trivial, trivial, ⟨rfl, wd_678, gm_72, km_72⟩, trivial, trivial, trivial, trivial, wd_211, trivial, trivial, trivial, trivial, trivial⟩
theorem ck71 : cd71.all (good 71) = true := by decide +kernel
theorem lk72 : allP (LkP 72) cd72 := ⟨trivial, trivial, ⟨wd_214, trivial⟩, trivial, trivial, ⟨wd_212, trivial⟩, trivial, trivial, ⟨wd_216, trivial⟩, trivial, trivial⟩
theorem ck72 : cd72.all (good 72) = true := by decide +kernel
theorem lk73 : allP (LkP 73) cd73 := ⟨trivial, wd_209, trivial, trivial, trivial, wd_210, trivial, trivial, trivial, wd_210, trivial, trivial, trivial, wd_210, trivial, trivial, ⟨rfl, wd_686, gm_53, km_53⟩, trivial, trivial, trivial, wd_210, trivial, trivial, trivial, ⟨rfl, wd_687, gm_54, km_54⟩, trivial, trivial, trivial, wd_210, trivial, trivial, trivial, ⟨rfl, wd_687, gm_54, km_54⟩, trivial, trivial, trivial, wd_210, trivial, trivial, ⟨rfl, wd_688, gm_55, km_55⟩, trivial, trivial, trivial, wd_210, trivial, trivial, trivial, wd_210, trivial, trivial, ⟨rfl, wd_689, gm_57, km_57⟩, trivial, trivial, trivial, trivial, wd_210, trivial, trivial, ⟨rfl, wd_690, gm_30, km_30⟩, trivial, trivial⟩
theorem ck73 : cd73.all (good 73) = true := by decide +kernel
theorem lk74 : allP (LkP 74) cd74 := ⟨trivial, trivial, ⟨wd_211, trivial⟩, trivial, trivial, ⟨rfl, wd_663, gm_76, km_76⟩, ⟨wd_209, trivial⟩, trivial, wd_209, ⟨Or.inl wd_667, gm_75, km_75⟩, trivial, trivial, trivial, trivial, trivial, trivial, trivial, wd_211, trivial, trivial, ⟨wd_211, trivial⟩, trivial, trivial, trivial, trivial, trivial, trivial, trivial, trivial, trivial, ⟨rfl, wd_670, gm_77, km_77⟩, trivial, trivial, trivial, trivial, trivial, ⟨rfl, wd_674, gm_78, km_78⟩, trivial, trivial, trivial, trivial, trivial, trivial, trivial, ⟨rfl, wd_670, gm_77, km_77⟩, trivial, trivial⟩
theorem ck74 : cd74.all (good 74) = true := by decide +kernel
theorem lk75 : allP (LkP 75) cd75 := ⟨trivial, trivial, trivial, trivial, trivial, trivial, trivial, trivial, trivial, trivial, trivial⟩
theorem ck75 : cd75.all (good 75) = true := by decide +kernel
theorem lk76 : allP (LkP 76) cd76 := ⟨trivial, wd_211, trivial, trivial, wd_211, trivial, wd_207, trivial, trivial, wd_211, trivial, wd_206, trivial, trivial, trivial, wd_206, trivial, wd_211, trivial, trivial, trivial, trivial, trivial⟩
theorem ck76 : cd76.all (good 76) = true := by decide +kernel
theorem lk77 : allP (LkP 77) cd77 := ⟨trivial, ⟨rfl, wd_663, gm_76, km_76⟩, trivial, trivial, trivial, trivial, trivial, trivial, wd_211, trivial, trivial, ⟨wd_211, trivial⟩, trivial, trivial, trivial⟩
theorem ck77 : cd77.all (good 77) = true := by decide +kernel
theorem lk78 : allP (LkP 78) cd78 := ⟨trivial, trivial, trivial, trivial, trivial, trivial, trivial, trivial, ⟨rfl, wd_663, gm_76, km_76⟩, trivial, trivial, trivial, ⟨rfl, wd_663, gm_76, km_76⟩, trivial, trivial, trivial, trivial, trivial, trivial, ⟨rfl, wd_663, gm_76, km_76⟩, trivial, trivial, trivial, trivial, trivial, trivial, trivial, wd_211, trivial, trivial, ⟨wd_211, trivial⟩, trivial, trivial, trivial, trivial, trivial, wd_210, trivial, trivial, trivial, wd_210, trivial, trivial, trivial, trivial, trivial, trivial, trivial, trivial, trivial, trivial⟩
theorem ck78 : cd78.all (good 78) = true := by decide +kernel
theorem lk79 : allP (LkP 79) cd79 := ⟨trivial, wd_189, trivial, trivial, trivial, ⟨wd_192, ⟨rfl, rfl, rfl⟩⟩, trivial, wd_190, trivial, ⟨rfl, Or.inr wd_191, gm_85, km_85⟩, ⟨wd_193, ⟨rfl, rfl, rfl⟩⟩, trivial, trivial⟩
theorem ck79 : cd79.all (good 79) = true := by decide +kernel
theorem lk80_0 : allP (LkP 80) cd80_0 := ⟨trivial, trivial, ⟨rfl, wd_356, gm_38, km_38⟩, trivial, wd_357, trivial, trivial, trivial, trivial, trivial, wd_192, trivial, trivial, trivial, wd_192, trivial, trivial, trivial, trivial, trivial, wd_358, trivial, trivial, trivial, trivial, trivial, trivial, trivial, wd_71, trivial, trivial, trivial, trivial, trivial, wd_78, trivial, trivial, trivial, trivial, ⟨rfl, wd_359, gm_81, km_81⟩, trivial, trivial, trivial, trivial, trivial, trivial, wd_192, trivial, trivial, trivial, trivial⟩
theorem ck80_0 : cd80_0.all (good 80) = true := by decide +kernel
theorem lk80_1 : allP (LkP 80) cd80_1 := ⟨wd_192, trivial, trivial, wd_358, trivial, trivial, wd_192, trivial, trivial, trivial, wd_357, trivial, trivial⟩
theorem ck80_1 : cd80_1.all (good 80) = true := by decide +kernel
theorem lk80 : allP (LkP 80) cd80 := allP_app lk80_0 (lk80_1)
theorem ck80 : cd80.all (good 80) = true := all_app ck80_0 (ck80_1)
theorem lk81_0 : allP (LkP 81) cd81_0 := ⟨trivial, trivial, ⟨rfl, wd_363, gm_39, km_39⟩, trivial, trivial, trivial, ⟨rfl, wd_364, gm_42, km_42⟩, trivial, trivial, trivial, wd_82, trivial, trivial, trivial, trivial, wd_85, trivial, trivial, trivial, trivial, trivial, trivial, wd_192, trivial, trivial, trivial, ⟨Or.inr wd_365, gm_24, km_24⟩, trivial, trivial, trivial, trivial, wd_192, trivial, trivial, trivial, ⟨Or.inr wd_365, gm_24, km_24⟩, trivial, trivial, wd_192, trivial, trivial, wd_192, trivial, trivial, trivial, wd_192, trivial, trivial, trivial, wd_88, trivial⟩
theorem ck81_0 : cd81_0.all (good 81) = true := by decide +kernel
theorem lk81_1 : allP (LkP 81) cd81_1 := ⟨trivial, trivial, trivial, wd_366, trivial, trivial, wd_192, trivial, trivial, wd_192, trivial, trivial, trivial, wd_192, trivial, trivial, trivial, wd_88, trivial, trivial, trivial, wd_366, trivial, trivial, trivial⟩
theorem ck81_1 : cd81_1.all (good 81) = true := by decide +kernel
theorem lk81 : allP (LkP 81) cd81 := allP_app lk81_0 (lk81_1)
theorem ck81 : cd81.all (good 81) = true := all_app ck81_0 (ck81_1)
theorem lk82 : allP (LkP 82) cd82 := ⟨trivial, wd_193, ⟨rfl, wd_523, gm_86, km_86⟩, trivial, trivial, trivial, trivial, trivial, trivial, wd_193, ⟨rfl, wd_524, gm_89, km_89⟩, trivial, wd_97, trivial, trivial, trivial, ⟨rfl, wd_525, gm_83, km_83⟩, trivial, trivial, trivial, trivial, trivial, trivial, wd_193, trivial, trivial, trivial, trivial, wd_193, ⟨rfl, wd_524, gm_89, km_89⟩, ⟨rfl, wd_529, gm_46, km_46⟩, trivial, trivial, ⟨rfl, wd_534, gm_44, km_44⟩, ⟨rfl, wd_535, gm_87, km_87⟩, trivial, trivial, trivial, trivial⟩
theorem ck82 : cd82.all (good 82) = true := by decide +kernel
theorem lk83 : allP (LkP 83) cd83 := ⟨trivial, wd_193, ⟨rfl, wd_524, gm_89, km_89⟩, trivial, trivial, trivial, trivial, trivial, trivial, trivial, wd_78, trivial, trivial, wd_193, trivial, trivial, trivial, ⟨rfl, wd_529, gm_46, km_46⟩, ⟨rfl, wd_530, gm_92, km_92⟩, trivial, trivial, trivial, trivial, trivial, trivial, trivial, trivial, trivial, ⟨Or.inl wd_531, gm_84, km_84⟩, trivial, trivial, trivial, trivial, trivial, trivial, trivial, trivial⟩
theorem ck83 : cd83.all (good 83) = true := by decide +kernel
theorem lk84 : allP (LkP 84) cd84 := ⟨trivial, trivial, ⟨rfl, wd_363, gm_39, km_39⟩, trivial, trivial, trivial, ⟨rfl, wd_363, gm_39, km_39⟩, trivial, trivial, trivial, trivial, wd_91, trivial, trivial, trivial, wd_91, trivial, trivial, trivial, trivial, wd_91, trivial, trivial, trivial, wd_91, trivial, trivial, trivial, trivial, trivial, trivial, trivial, trivial, wd_88, trivial, trivial, trivial, wd_88, trivial, trivial, trivial, trivial, trivial, trivial, trivial, trivial⟩
theorem ck84 : cd84.all (good 84) = true := by decide +kernel
theorem lk85 : allP (LkP 85) cd85 := ⟨trivial, wd_41, trivial, trivial, trivial, ⟨wd_42, ⟨rfl, rfl, rfl⟩⟩, trivial, trivial, ⟨wd_43, trivial⟩, trivial, trivial, ⟨wd_46, trivial⟩, trivial, trivial, ⟨wd_50, trivial⟩, trivial, trivial, ⟨wd_52, trivial⟩, trivial, trivial⟩
theorem ck85 : cd85.all (good 85) = true := by decide +kernel
theorem lk86 : allP (LkP 86) cd86 := ⟨trivial, trivial, ⟨wd_43, trivial⟩, trivial, trivial, ⟨wd_46, trivial⟩, trivial, trivial, ⟨wd_50, trivial⟩, trivial, trivial, ⟨wd_52, trivial⟩, trivial, trivial⟩
theorem ck86 : cd86.all (good 86) = true := by decide +kernel
theorem lk87 : allP (LkP 87) cd87 := ⟨trivial, wd_43, trivial, trivial, wd_43, trivial, trivial, trivial, wd_42, trivial, trivial, trivial, trivial, trivial, wd_43, trivial, trivial, ⟨wd_43, trivial⟩, trivial, wd_42, trivial, wd_43, trivial, trivial, trivial, trivial, wd_46, trivial, trivial, ⟨wd_46, trivial⟩, trivial, trivial, wd_50, trivial, trivial, trivial, trivial, ⟨wd_50, trivial⟩, trivial, trivial, wd_52, trivial, trivial, trivial, trivial, ⟨wd_52, trivial⟩, trivial, trivial⟩
theorem ck87 : cd87.all (good 87) = true := by decide +kernel
theorem lk88 : allP (LkP 88) cd88 := ⟨trivial, trivial, trivial, trivial, wd_42, trivial, trivial, trivial, wd_42, trivial, trivial, trivial, trivial, trivial, trivial⟩
theorem ck88 : cd88.all (good 88) = true := by decide +kernel
theorem lk89 : allP (LkP 89) cd89 := ⟨trivial, trivial, wd_43, ⟨rfl, wd_444, gm_88, km_88⟩, trivial, trivial⟩
theorem ck89 : cd89.all (good 89) = true := by decide +kernel
theorem lk90 : allP (LkP 90) cd90 := ⟨trivial, wd_50, trivial, ⟨Or.inr wd_333, gm_26, km_26⟩, trivial, trivial⟩
theorem ck90 : cd90.all (good 90) = true := by decide +kernel
theorem lk91 : allP (LkP 91) cd91 := ⟨trivial, wd_52, trivial, ⟨Or.inr wd_333, gm_26, km_26⟩, trivial, trivial⟩
theorem ck91 : cd91.all (good 91) = true := by decide +kernel
theorem lk92 : allP (LkP 92) cd92 := ⟨trivial, trivial, trivial, trivial, wd_52, trivial, ⟨Or.inr wd_333, gm_26, km_26⟩, trivial, trivial, trivial, trivial, trivial, trivial⟩
theorem ck92 : cd92.all (good 92) = true := by decide +kernel
theorem lk93 : allP (LkP 93) cd93 := ⟨trivial, trivial, trivial, trivial, trivial, trivial, wd_42, trivial, wd_42, ⟨Or.inr wd_305, gm_27, km_27⟩, trivial, trivial, wd_43, ⟨wd_43, trivial⟩, trivial, trivial, wd_46, ⟨wd_46, trivial⟩, trivial, trivial, wd_50, ⟨wd_50, trivial⟩, trivial, trivial, wd_52, ⟨wd_52, trivial⟩, trivial, trivial⟩
theorem ck93 : cd93.all (good 93) = true := by decide +kernel
theorem lk94 : allP (LkP 94) cd94 := ⟨trivial, trivial, trivial, trivial, trivial, trivial, trivial, trivial, wd_309, trivial, trivial, trivial, trivial, trivial, trivial, trivial, trivial⟩
theorem ck94 : cd94.all (good 94) = true := by decide +kernel
theorem lk95 : allP (LkP 95) cd95 := ⟨trivial, wd_313, trivial, trivial, trivial, trivial, trivial⟩
theorem ck95 : cd95.all (good 95) = true := by decide +kernel
theorem lk96_0 : allP (LkP 96) cd96_0 := ⟨wd_317, trivial, trivial, trivial, trivial, trivial, trivial, wd_318, trivial, trivial, trivial, trivial, ⟨rfl, wd_255, gm_18, km_18⟩, trivial, trivial, trivial, trivial, trivial, trivial, trivial, trivial, trivial, trivial, ⟨rfl, wd_255, gm_18, km_18⟩, trivial, trivial, trivial, trivial, trivial, trivial, wd_318, trivial, trivial, trivial, trivial, trivial, ⟨rfl, wd_319, gm_9, km_9⟩, trivial, trivial, trivial, trivial, trivial, trivial, trivial, trivial, trivial, trivial, trivial, trivial, ⟨rfl, wd_255, gm_18, km_18⟩, trivial⟩
theorem ck96_0 : cd96_0.all (good 96) = true := by decide +kernel
theorem lk96_1 : allP (LkP 96) cd96_1 := ⟨trivial, wd_318, wd_318, wd_318, trivial, trivial, trivial, trivial, trivial, ⟨rfl, wd_336, gm_10, km_10⟩, trivial, trivial, trivial, trivial, trivial, trivial, ⟨rfl, wd_336, gm_10, km_10⟩, trivial, trivial, trivial, trivial, trivial, trivial, ⟨rfl, wd_336, gm_10, km_10⟩, trivial, trivial, trivial, trivial, trivial, trivial, trivial, trivial, trivial, trivial, wd_318, trivial, trivial, trivial, trivial, trivial, trivial, ⟨rfl, wd_255, gm_18, km_18⟩, trivial, trivial, trivial, trivial, trivial, wd_318, wd_318, wd_318, trivial⟩
theorem ck96_1 : cd96_1.all (good 96) = true := by decide +kernel
theorem lk96_2 : allP (LkP 96) cd96_2 := ⟨trivial, trivial, trivial, trivial, ⟨rfl, wd_377, gm_11, km_11⟩, trivial, trivial, trivial, trivial, trivial, ⟨rfl, wd_377, gm_11, km_11⟩, trivial, trivial, trivial, trivial, trivial, ⟨rfl, wd_382, gm_12, km_12⟩, trivial, trivial, trivial, trivial⟩
theorem ck96_2 : cd96_2.all (good 96) = true := by decide +kernel
theorem lk96 : allP (LkP 96) cd96 := allP_app lk96_0 (allP_app lk96_1 (lk96_2))
theorem ck96 : cd96.all (good 96) = true := all_app ck96_0 (all_app ck96_1 (ck96_2))
theorem lk97_0 : allP (LkP 97) cd97_0 := ⟨trivial, trivial, ⟨rfl, wd_255, gm_18, km_18⟩, trivial, trivial, trivial, ⟨rfl, wd_255, gm_18, km_18⟩, trivial, trivial, trivial, trivial, trivial, trivial, trivial, trivial, trivial, trivial, trivial, trivial, trivial, trivial, trivial, trivial, trivial, ⟨rfl, wd_319, gm_9, km_9⟩, trivial, trivial, trivial, trivial, ⟨rfl, wd_319, gm_9, km_9⟩, trivial, trivial, trivial, trivial, ⟨rfl, wd_336, gm_10, km_10⟩, trivial, trivial, trivial, trivial, ⟨rfl, wd_336, gm_10, km_10⟩, trivial, trivial, trivial, trivial, trivial, ⟨rfl, wd_319, gm_9, km_9⟩, trivial, trivial, trivial, trivial, trivial⟩
theorem ck97_0 : cd97_0.all (good 97) = true := by decide +kernel
theorem lk97_1 : allP (LkP 97) cd97_1 := ⟨trivial, trivial, ⟨rfl, wd_319, gm_9, km_9⟩, trivial, trivial, trivial, trivial, trivial, trivial, trivial, trivial, trivial, trivial, trivial, trivial, trivial, trivial, trivial, trivial, trivial, trivial, ⟨rfl, wd_319, gm_9, km_9⟩, trivial, trivial, trivial, trivial, trivial, ⟨rfl, wd_319, gm_9, km_9⟩, trivial, trivial, trivial, wd_393, trivial, trivial, trivial, trivial, trivial, wd_393, trivial, trivial, trivial, trivial, trivial, trivial, wd_393, trivial, trivial, trivial, trivial, trivial, trivial⟩
theorem ck97_1 : cd97_1.all (good 97) = true := by decide +kernel
theorem lk97_2 : allP (LkP 97) cd97_2 := ⟨trivial, trivial, ⟨rfl, wd_319, gm_9, km_9⟩, trivial, trivial, trivial, trivial, trivial, trivial, trivial, ⟨rfl, wd_319, gm_9, km_9⟩, trivial, trivial, trivial, trivial, ⟨rfl, wd_394, gm_13, km_13⟩, wd_393, trivial, trivial, trivial, trivial, trivial, trivial, trivial, ⟨rfl, wd_319, gm_9, km_9⟩, trivial, trivial, trivial, trivial, trivial, trivial, trivial, trivial, trivial, trivial, trivial, trivial, trivial, trivial, trivial, trivial, trivial, trivial, trivial, trivial, trivial, trivial, trivial, trivial, trivial, trivial⟩
theorem ck97_2 : cd97_2.all (good 97) = true := by decide +kernel
theorem lk97_3 : allP (LkP 97) cd97_3 := ⟨⟨rfl, wd_336, gm_10, km_10⟩, trivial, trivial, trivial, trivial, trivial, trivial, ⟨rfl, wd_336, gm_10, km_10⟩, trivial, trivial, trivial, trivial, trivial, trivial, trivial, trivial, trivial, ⟨rfl, wd_255, gm_18, km_18⟩, trivial, trivial, trivial, trivial, trivial, trivial, trivial, ⟨rfl, wd_255, gm_18, km_18⟩, trivial, trivial, trivial, ⟨rfl, wd_255, gm_18, km_18⟩, trivial, trivial, ⟨rfl, wd_255, gm_18, km_18⟩, trivial, trivial, ⟨rfl, wd_255, gm_18, km_18⟩, trivial, trivial, trivial, ⟨rfl, wd_255, gm_18, km_18⟩, trivial, trivial, trivial, trivial, ⟨rfl, wd_255, gm_18, km_18⟩, trivial, trivial, trivial, trivial, ⟨rfl, wd_255, gm_18, km_18⟩, trivial⟩
theorem ck97_3 : cd97_3.all (good 97) = true := by decide +kernel
theorem lk97_4 : allP (LkP 97) cd97_4 := ⟨trivial, trivial, trivial, trivial, trivial, trivial, ⟨rfl, wd_336, gm_10, km_10⟩, trivial, trivial, trivial, trivial, ⟨rfl, wd_336, gm_10, km_10⟩, trivial, trivial, trivial, ⟨rfl, wd_377, gm_11, km_11⟩, wd_393, trivial, trivial, trivial, trivial, trivial, trivial, ⟨rfl, wd_382, gm_12, km_12⟩, wd_393, trivial, trivial, trivial, trivial, trivial, trivial, trivial, ⟨rfl, wd_377, gm_11, km_11⟩, wd_393, trivial, trivial, trivial, trivial, ⟨rfl, wd_377, gm_11, km_11⟩, ⟨rfl, wd_382, gm_12, km_12⟩, trivial, trivial, ⟨rfl, wd_255, gm_18, km_18⟩, trivial, trivial, trivial, ⟨rfl, wd_377, gm_11, km_11⟩, trivial, trivial, ⟨rfl, wd_255, gm_18, km_18⟩, trivial⟩
theorem ck97_4 : cd97_4.all (good 97) = true := by decide +kernel
theorem lk97_5 : allP (LkP 97) cd97_5 := ⟨trivial, trivial, trivial, trivial, trivial, trivial⟩
theorem ck97_5 : cd97_5.all (good 97) = true := by decide +kernel
theorem lk97 : allP (LkP 97) cd97 := allP_app lk97_0 (allP_app lk97_1 (allP_app lk97_2 (allP_app lk97_3 (allP_app lk97_4 (lk97_5)))))
theorem ck97 : cd97.all (good 97) = true := all_app ck97_0 (all_app ck97_1 (all_app ck97_2 (all_app ck97_3 (all_app ck97_4 (ck97_5)))))
theorem lk98_0 : allP (LkP 98) cd98_0 := ⟨trivial, trivial, ⟨Or.inl wd_310, gm_95, km_95⟩, trivial, trivial, trivial, trivial, ⟨rfl, wd_411, gm_17, km_17⟩, trivial, trivial, trivial, trivial, ⟨rfl, wd_411, gm_17, km_17⟩, trivial, trivial, trivial, trivial, ⟨rfl, wd_255, gm_18, km_18⟩, trivial, trivial, trivial, trivial, ⟨rfl, wd_505, gm_16, km_16⟩, trivial, trivial, trivial, ⟨rfl, wd_255, gm_18, km_18⟩, trivial, trivial, trivial, trivial, trivial, trivial, trivial, trivial, wd_513, trivial, wd_514, trivial, trivial, wd_514, trivial, trivial, trivial, ⟨rfl, wd_515, gm_14, km_14⟩, wd_514, trivial, trivial, trivial, trivial, trivial⟩
theorem ck98_0 : cd98_0.all (good 98) = true := by decide +kernel
theorem lk98_1 : allP (LkP 98) cd98_1 := ⟨trivial, trivial, trivial, ⟨rfl, wd_515, gm_14, km_14⟩, trivial, trivial, trivial, trivial, trivial, trivial, trivial, wd_513, trivial, trivial, wd_513, trivial, trivial, trivial, trivial, trivial, trivial, trivial, trivial, trivial, trivial, trivial, trivial, trivial, trivial, trivial, trivial, trivial, trivial, trivial, trivial, trivial, trivial, trivial, trivial, trivial, trivial, trivial, trivial, trivial, trivial, trivial, trivial, ⟨rfl, wd_505, gm_16, km_16⟩, trivial, trivial, trivial⟩
theorem ck98_1 : cd98_1.all (good 98) = true := by decide +kernel
theorem lk98_2 : allP (LkP 98) cd98_2 := ⟨⟨rfl, wd_255, gm_18, km_18⟩, trivial, trivial, trivial, trivial, trivial, trivial, trivial, ⟨rfl, wd_505, gm_16, km_16⟩, trivial, trivial, trivial, ⟨rfl, wd_505, gm_16, km_16⟩, trivial, trivial, ⟨rfl, wd_255, gm_18, km_18⟩, trivial, trivial, trivial, trivial, trivial, trivial, trivial, trivial, ⟨rfl, wd_515, gm_14, km_14⟩, trivial, trivial, ⟨rfl, wd_255, gm_18, km_18⟩, trivial, trivial, ⟨rfl, wd_536, gm_15, km_15⟩, wd_393, trivial, trivial, ⟨rfl, wd_536, gm_15, km_15⟩, trivial, trivial, ⟨rfl, wd_377, gm_11, km_11⟩, trivial, trivial, trivial, ⟨rfl, wd_255, gm_18, km_18⟩, trivial, ⟨rfl, wd_336, gm_10, km_10⟩, trivial, trivial, trivial, trivial, trivial, trivial, trivial⟩
theorem ck98_2 : cd98_2.all (good 98) = true := by decide +kernel
theorem lk98 : allP (LkP 98) cd98 := allP_app lk98_0 (allP_app lk98_1 (lk98_2))
theorem ck98 : cd98.all (good 98) = true := all_app ck98_0 (all_app ck98_1 (ck98_2))
theorem lk99 : allP (LkP 99) cd99 := ⟨trivial, trivial, trivial, trivial, trivial, trivial, trivial, trivial, trivial, ⟨rfl, wd_634, gm_20, km_20⟩, trivial, trivial, trivial, trivial, trivial, trivial, trivial, trivial, trivial, trivial, trivial, trivial, ⟨rfl, wd_634, gm_20, km_20⟩, trivial, trivial, trivial, trivial, trivial, trivial, trivial, trivial, trivial, trivial, trivial, trivial, ⟨rfl, wd_634, gm_20, km_20⟩, trivial, trivial, trivial, trivial, trivial, trivial, trivial, ⟨rfl, wd_634, gm_20, km_20⟩, trivial, trivial, trivial, trivial, trivial, trivial⟩
theorem ck99 : cd99.all (good 99) = true := by decide +kernel
theorem lk100_0 : allP (LkP 100) cd100_0 := ⟨trivial, trivial, ⟨Or.inl wd_310, gm_95, km_95⟩, trivial, trivial, ⟨rfl, wd_626, gm_21, km_21⟩, trivial, trivial, trivial, trivial, trivial, trivial, trivial, trivial, trivial, trivial, trivial, trivial, trivial, trivial, trivial, trivial, trivial, trivial, trivial, trivial, ⟨Or.inl wd_310, gm_95, km_95⟩, trivial, trivial, trivial, trivial, trivial, trivial, trivial, trivial, trivial, trivial, trivial, trivial, trivial, trivial, trivial, trivial, trivial, trivial, trivial, trivial, ⟨Or.inl wd_310, gm_95, km_95⟩, trivial, trivial, trivial⟩
theorem ck100_0 : cd100_0.all (good 100) = true := by decide +kernel
theorem lk100_1 : allP (LkP 100) cd100_1 := ⟨trivial, trivial, trivial, trivial, trivial, trivial, trivial, trivial, trivial, trivial, trivial, trivial, trivial, trivial, trivial, trivial, trivial, trivial, trivial, trivial, trivial, trivial, trivial, trivial, trivial, trivial, trivial, ⟨rfl, wd_634, gm_20, km_20⟩, trivial, trivial, trivial, trivial, trivial, trivial, trivial, trivial, trivial, trivial, trivial, trivial, trivial, trivial, trivial, trivial, trivial, trivial, trivial, trivial, trivial, ⟨Or.inl wd_310, gm_95, km_95⟩, trivial⟩
theorem ck100_1 : cd100_1.all (good 100) = true := by decide +kernel
theorem lk100_2 : allP (LkP 100) cd100_2 := ⟨trivial, trivial, trivial, trivial, ⟨Or.inl wd_310, gm_95, km_95⟩, trivial, trivial, trivial, trivial, trivial, trivial, trivial, trivial, trivial, trivial, trivial, trivial, trivial, trivial, trivial, trivial, trivial, ⟨Or.inl wd_310, gm_95, km_95⟩, trivial, trivial, trivial, trivial, trivial, trivial, trivial, trivial, trivial, trivial, ⟨Or.inl wd_310, gm_95, km_95⟩, trivial, trivial, trivial, trivial, ⟨rfl, wd_634, gm_20, km_20⟩, trivial, trivial, trivial, ⟨Or.inl wd_645, gm_99, km_99⟩, trivial, trivial, trivial, trivial, trivial, trivial, trivial, trivial⟩
theorem ck100_2 : cd100_2.all (good 100) = true := by decide +kernel
theorem lk100_3 : allP (LkP 100) cd100_3 := ⟨trivial, trivial, trivial, trivial, trivial, trivial, ⟨Or.inl wd_310, gm_95, km_95⟩, trivial, trivial, trivial, trivial, trivial, trivial, trivial, trivial, ⟨rfl, wd_634, gm_20, km_20⟩, trivial, trivial, trivial, trivial, trivial, trivial, trivial, trivial, trivial, trivial⟩
theorem ck100_3 : cd100_3.all (good 100) = true := by decide +kernel
theorem lk100 : allP (LkP 100) cd100 := allP_app lk100_0 (allP_app lk100_1 (allP_app lk100_2 (lk100_3)))
theorem ck100 : cd100.all (good 100) = true := all_app ck100_0 (all_app ck100_1 (all_app ck100_2 (ck100_3)))
theorem lk101_0 : allP (LkP 101) cd101_0 := ⟨trivial, trivial, ⟨rfl, wd_651, gm_22, km_22⟩, trivial, trivial, trivial, ⟨rfl, wd_651, gm_22, km_22⟩, trivial, trivial, trivial, ⟨rfl, wd_651, gm_22, km_22⟩, trivial, trivial, trivial, ⟨rfl, wd_255, gm_18, km_18⟩, trivial, trivial, ⟨rfl, wd_692, gm_23, km_23⟩, trivial, trivial, wd_393, trivial, trivial, wd_393, trivial, trivial, wd_393, trivial, trivial, trivial, trivial, trivial, trivial, trivial, trivial, trivial, trivial, trivial, trivial, trivial, trivial, trivial, trivial, trivial, trivial, wd_514, trivial, trivial, trivial, trivial, trivial⟩
theorem ck101_0 : cd101_0.all (good 101) = true := by decide +kernel
theorem lk101_1 : allP (LkP 101) cd101_1 := ⟨trivial, trivial, trivial, trivial, trivial, trivial, trivial, trivial, trivial, trivial, trivial, trivial, trivial, wd_393, trivial, trivial, trivial, trivial, trivial, trivial, trivial, trivial, trivial, trivial, trivial, ⟨rfl, wd_255, gm_18, km_18⟩, trivial, trivial, trivial, trivial, trivial, trivial, trivial⟩
theorem ck101_1 : cd101_1.all (good 101) = true := by decide +kernel
theorem lk101 : allP (LkP 101) cd101 := allP_app lk101_0 (lk101_1)
theorem ck101 : cd101.all (good 101) = true := all_app ck101_0 (ck101_1)
theorem lk102_0 : allP (LkP 102) cd102_0 := ⟨trivial, trivial, trivial, trivial, trivial, ⟨Or.inl wd_310, gm_95, km_95⟩, trivial, trivial, trivial, trivial, ⟨Or.inl wd_310, gm_95, km_95⟩, trivial, trivial, trivial, trivial, ⟨rfl, wd_411, gm_17, km_17⟩, trivial, trivial, trivial, trivial, ⟨rfl, wd_411, gm_17, km_17⟩, trivial, trivial, trivial, trivial, ⟨rfl, wd_411, gm_17, km_17⟩, trivial, trivial, trivial, trivial, ⟨rfl, wd_411, gm_17, km_17⟩, trivial, trivial, trivial, ⟨rfl, wd_255, gm_18, km_18⟩, trivial, trivial, trivial, ⟨rfl, wd_255, gm_18, km_18⟩, trivial, trivial, trivial, ⟨rfl, wd_255, gm_18, km_18⟩, trivial, trivial, trivial, ⟨rfl, wd_619, gm_6, km_6⟩, trivial, trivial, trivial, trivial⟩
theorem ck102_0 : cd102_0.all (good 102) = true := by decide +kernel
theorem lk102_1 : allP (LkP 102) cd102_1 := ⟨trivial, trivial, trivial, trivial, wd_513, trivial, trivial, wd_513, trivial, trivial, trivial, trivial, trivial, trivial, trivial, ⟨rfl, wd_255, gm_18, km_18⟩, trivial, trivial, trivial, wd_514, trivial, trivial, wd_514, trivial, trivial, trivial, trivial, trivial, trivial, trivial, trivial, trivial, trivial, ⟨rfl, wd_255, gm_18, km_18⟩, trivial, trivial, trivial, trivial, trivial, trivial, ⟨rfl, wd_255, gm_18, km_18⟩, trivial, trivial, trivial, trivial, ⟨rfl, wd_255, gm_18, km_18⟩, trivial, trivial, trivial, trivial, trivial⟩
theorem ck102_1 : cd102_1.all (good 102) = true := by decide +kernel
theorem lk102_2 : allP (LkP 102) cd102_2 := ⟨trivial, ⟨rfl, wd_255, gm_18, km_18⟩, trivial, trivial, trivial, trivial, trivial, trivial, ⟨rfl, wd_377, gm_11, km_11⟩, trivial, trivial, trivial, trivial, ⟨rfl, wd_255, gm_18, km_18⟩, trivial, trivial, trivial, trivial, trivial, trivial, trivial⟩
theorem ck102_2 : cd102_2.all (good 102) = true := by decide +kernel
theorem lk102 : allP (LkP 102) cd102 := allP_app lk102_0 (allP_app lk102_1 (lk102_2))
theorem ck102 : cd102.all (good 102) = true := all_app ck102_0 (all_app ck102_1 (ck102_2))
theorem lk103_0 : allP (LkP 103) cd103_0 := ⟨trivial, trivial, ⟨Or.inl wd_310, gm_95, km_95⟩, trivial, trivial, trivial, ⟨rfl, wd_255, gm_18, km_18⟩, trivial, trivial, trivial, ⟨rfl, wd_255, gm_18, km_18⟩, trivial, trivial, trivial, trivial, trivial, ⟨rfl, wd_543, gm_2, km_2⟩, trivial, trivial, trivial, wd_565, trivial, trivial, trivial, trivial, trivial, trivial, trivial, trivial, trivial, trivial, trivial, trivial, trivial, trivial, ⟨Or.inl wd_310, gm_95, km_95⟩, trivial, trivial, trivial, trivial, trivial, trivial, trivial, ⟨Or.inl wd_310, gm_95, km_95⟩, trivial, trivial, trivial, trivial, trivial, trivial, trivial⟩
theorem ck103_0 : cd103_0.all (good 103) = true := by decide +kernel
theorem lk103_1 : allP (LkP 103) cd103_1 := ⟨⟨Or.inl wd_310, gm_95, km_95⟩, trivial, trivial, trivial, trivial, ⟨Or.inl wd_310, gm_95, km_95⟩, trivial, trivial, trivial, trivial, trivial, trivial, trivial, trivial, trivial, trivial, trivial, trivial, trivial, trivial, trivial, trivial, trivial, trivial, trivial, trivial, trivial, trivial, trivial, ⟨rfl, wd_566, gm_3, km_3⟩, trivial, trivial, trivial, trivial, wd_513, trivial, trivial, trivial, trivial, wd_565, trivial, trivial, trivial, trivial, trivial, trivial, trivial, trivial, ⟨rfl, wd_319, gm_9, km_9⟩, trivial, trivial⟩
theorem ck103_1 : cd103_1.all (good 103) = true := by decide +kernel
theorem lk103_2 : allP (LkP 103) cd103_2 := ⟨trivial, ⟨rfl, wd_255, gm_18, km_18⟩, trivial, trivial, trivial, trivial, ⟨rfl, wd_319, gm_9, km_9⟩, trivial, trivial, trivial, trivial, trivial, ⟨rfl, wd_319, gm_9, km_9⟩, trivial, trivial, trivial, ⟨rfl, wd_319, gm_9, km_9⟩, trivial, trivial, trivial, trivial, ⟨rfl, wd_319, gm_9, km_9⟩, trivial, trivial, trivial, trivial, trivial, trivial, trivial, trivial, trivial, trivial, trivial, trivial, trivial, ⟨Or.inl wd_310, gm_95, km_95⟩, trivial, trivial, trivial, trivial, trivial, ⟨Or.inl wd_310, gm_95, km_95⟩, trivial, trivial, trivial, trivial, trivial, trivial, trivial, ⟨rfl, wd_255, gm_18, km_18⟩, trivial⟩
theorem ck103_2 : cd103_2.all (good 103) = true := by decide +kernel
theorem lk103_3 : allP (LkP 103) cd103_3 := ⟨trivial, trivial, trivial, trivial, trivial, trivial, trivial, trivial, trivial, ⟨rfl, wd_319, gm_9, km_9⟩, trivial, trivial, trivial, trivial, trivial, trivial, trivial, trivial, trivial, trivial, trivial, trivial, trivial, trivial, trivial, trivial, trivial, trivial, ⟨rfl, wd_576, gm_4, km_4⟩, trivial, trivial, trivial, wd_513, trivial, trivial, trivial, trivial, trivial, trivial, trivial, trivial, trivial, trivial, trivial, trivial, trivial, wd_514, trivial, trivial, trivial, trivial⟩
theorem ck103_3 : cd103_3.all (good 103) = true := by decide +kernel
theorem lk103_4 : allP (LkP 103) cd103_4 := ⟨trivial, trivial, trivial, ⟨rfl, wd_319, gm_9, km_9⟩, trivial, trivial, trivial, trivial, trivial, trivial, trivial, trivial, trivial, trivial, trivial, trivial, trivial, trivial, trivial, trivial, trivial, ⟨Or.inl wd_310, gm_95, km_95⟩, trivial, trivial, trivial, ⟨rfl, wd_255, gm_18, km_18⟩, trivial, trivial, trivial, ⟨rfl, wd_586, gm_5, km_5⟩, trivial, trivial, trivial, trivial, trivial, trivial, trivial, wd_513, trivial, trivial, trivial, trivial, wd_514, trivial, trivial, trivial, trivial, trivial, trivial, trivial, trivial⟩
theorem ck103_4 : cd103_4.all (good 103) = true := by decide +kernel
theorem lk103_5 : allP (LkP 103) cd103_5 := ⟨⟨rfl, wd_377, gm_11, km_11⟩, wd_393, trivial, trivial, trivial, ⟨rfl, wd_255, gm_18, km_18⟩, trivial, trivial, trivial, trivial, trivial, trivial, trivial, trivial, trivial, trivial, trivial, ⟨rfl, wd_255, gm_18, km_18⟩, trivial, trivial, ⟨rfl, wd_595, gm_7, km_7⟩, trivial, trivial, trivial, trivial, trivial, ⟨rfl, wd_255, gm_18, km_18⟩, trivial, trivial, trivial, trivial, ⟨rfl, wd_255, gm_18, km_18⟩, trivial, trivial, trivial, ⟨rfl, wd_255, gm_18, km_18⟩, trivial, trivial, trivial, trivial, ⟨rfl, wd_377, gm_11, km_11⟩, wd_393, trivial, trivial, trivial, trivial, trivial, trivial, trivial, trivial, trivial⟩
theorem ck103_5 : cd103_5.all (good 103) = true := by decide +kernel
theorem lk103_6 : allP (LkP 103) cd103_6 := ⟨trivial, trivial, ⟨Or.inl wd_310, gm_95, km_95⟩, trivial, trivial, trivial, trivial, trivial, trivial, trivial, trivial, trivial, trivial, trivial, trivial, trivial, trivial, trivial, trivial, trivial, trivial, trivial, trivial, trivial, trivial, trivial, trivial, trivial, trivial, trivial, trivial, trivial, ⟨Or.inl wd_310, gm_95, km_95⟩, trivial, trivial, trivial, trivial, trivial, trivial, trivial, trivial, trivial, trivial, trivial, trivial, trivial, trivial, trivial, trivial, trivial, trivial⟩
theorem ck103_6 : cd103_6.all (good 103) = true := by decide +kernel
theorem lk103_7 : allP (LkP 103) cd103_7 := ⟨trivial, trivial, trivial, trivial, trivial, trivial, trivial, trivial, trivial, trivial, trivial, trivial, trivial, trivial, trivial, trivial, trivial, trivial, trivial, trivial, trivial, trivial, trivial, trivial, trivial, trivial, trivial, trivial, trivial, trivial, trivial, trivial, trivial, trivial, trivial, trivial, trivial, trivial, trivial, trivial, trivial, trivial, trivial, trivial, trivial, trivial, ⟨rfl, wd_255, gm_18, km_18⟩, trivial, trivial, trivial, trivial⟩
theorem ck103_7 : cd103_7.all (good 103) = true := by decide +kernel
theorem lk103_8 : allP (LkP 103) cd103_8 := ⟨trivial, ⟨rfl, wd_604, gm_8, km_8⟩, trivial, trivial, wd_513, trivial, trivial, trivial, trivial, trivial, trivial, trivial, trivial, trivial, ⟨rfl, wd_255, gm_18, km_18⟩, trivial, trivial, trivial, trivial, trivial, trivial, trivial, trivial, trivial, trivial, trivial, ⟨Or.inl wd_616, gm_102, km_102⟩, trivial, trivial, trivial, ⟨Or.inl wd_623, gm_100, km_100⟩, trivial, trivial, ⟨Or.inl wd_648, gm_101, km_101⟩, trivial, trivial, trivial, trivial, trivial, trivial⟩
theorem ck103_8 : cd103_8.all (good 103) = true := by decide +kernel
theorem lk103 : allP (LkP 103) cd103 := allP_app lk103_0 (allP_app lk103_1 (allP_app lk103_2 (allP_app lk103_3 (allP_app lk103_4 (allP_app lk103_5 (allP_app lk103_6 (allP_app lk103_7 (lk103_8))))))))
theorem ck103 : cd103.all (good 103) = true := all_app ck103_0 (all_app ck103_1 (all_app ck103_2 (all_app ck103_3 (all_app ck103_4 (all_app ck103_5 (all_app ck103_6 (all_app ck103_7 (ck103_8))))))))
theorem ck_all : ∀ m, (mC m).all (good m) = true := fun m => match m with
  | 0 => ck0
  | 1 => ck1
  | 2 => ck2
  | 3 => ck3
  | 4 => ck4
  | 5 => ck5
  | 6 => ck6
  | 7 => ck7
  | 8 => ck8
  | 9 => ck9
  | 10 => ck10
  | 11 => ck11
  | 12 => ck12
  | 13 => ck13
  | 14 => ck14
  | 15 => ck15
  | 16 => ck16
  | 17 => ck17
  | 18 => ck18
  | 19 => ck19
  | 20 => ck20
  | 21 => ck21
  | 22 => ck22
  | 23 => ck23
  | 24 => ck24
  | 25 => ck25
  | 26 => ck26
  | 27 => ck27
  | 28 => ck28
  | 29 => ck29
  | 30 => ck30
  | 31 => ck31
  | 32 => ck32
  | 33 => ck33
  | 34 => ck34
  | 35 => ck35
  | 36 => ck36
  | 37 => ck37
  | 38 => ck38
  | 39 => ck39
  | 40 => ck40
  | 41 => ck41
  | 42 => ck42
  | 43 => ck43
  | 44 => ck44
  | 45 => ck45
  | 46 => ck46
  | 47 => ck47
  | 48 => ck48
  | 49 => ck49
  | 50 => ck50
  | 51 => ck51
  | 52 => ck52
  | 53 => ck53
  | 54 => ck54
  | 55 => ck55
  | 56 => ck56
  | 57 => ck57
  | 58 => ck58
  | 59 => ck59
  | 60 => ck60
  | 61 => ck61
  | 62 => ck62
  | 63 => ck63
  | 64 => ck64
  | 65 => ck65
  | 66 => ck66
  | 67 => ck67
  | 68 => ck68
  | 69 => ck69
  | 70 => ck70
  | 71 => ck71
  | 72 => ck72
  | 73 => ck73
  | 74 => ck74
  | 75 => ck75
  | 76 => ck76
  | 77 => ck77
  | 78 => ck78
  | 79 => ck79
  | 80 => ck80
  | 81 => ck81
  | 82 => ck82
  | 83 => ck83
  | 84 => ck84
  | 85 => ck85
  | 86 => ck86
  | 87 => ck87
  | 88 => ck88
  | 89 => ck89
  | 90 => ck90
  | 91 => ck91
  | 92 => ck92
  | 93 => ck93
  | 94 => ck94
  | 95 => ck95
  | 96 => ck96
  | 97 => ck97
  | 98 => ck98
  | 99 => ck99
  | 100 => ck100
  | 101 => ck101
  | 102 => ck102
  | 103 => ck103
  | _ + 104 => rfl
theorem lk_all : ∀ m, allP (LkP m) (mC m) := fun m => match m with
  | 0 => lk0
  | 1 => lk1
  | 2 => lk2
  | 3 => lk3
  | 4 => lk4
  | 5 => lk5
  | 6 => lk6
  | 7 => lk7
  | 8 => lk8
  | 9 => lk9
  | 10 => lk10
  | 11 => lk11
  | 12 => lk12
  | 13 => lk13
  | 14 => lk14
  | 15 => lk15
  | 16 => lk16
  | 17 => lk17
  | 18 => lk18
  | 19 => lk19
  | 20 => lk20
  | 21 => lk21
  | 22 => lk22
  | 23 => lk23
  | 24 => lk24
  | 25 => lk25
  | 26 => lk26
  | 27 => lk27
  | 28 => lk28
  | 29 => lk29
  | 30 => lk30
  | 31 => lk31
  | 32 => lk32
  | 33 => lk33
  | 34 => lk34
  | 35 => lk35
  | 36 => lk36
  | 37 => lk37
  | 38 => lk38
  | 39 => lk39
  | 40 => lk40
  | 41 => lk41
  | 42 => lk42
  | 43 => lk43
  | 44 => lk44
  | 45 => lk45
  | 46 => lk46
  | 47 => lk47
  | 48 => lk48
  | 49 => lk49
  | 50 => lk50
  | 51 => lk51
  | 52 => lk52
  | 53 => lk53
  | 54 => lk54
  | 55 => lk55
  | 56 => lk56
  | 57 => lk57
  | 58 => lk58
  | 59 => lk59
  | 60 => lk60
  | 61 => lk61
  | 62 => lk62
  | 63 => lk63
  | 64 => lk64
  | 65 => lk65
  | 66 => lk66
  | 67 => lk67
  | 68 => lk68
  | 69 => lk69
  | 70 => lk70
  | 71 => lk71
  | 72 => lk72
  | 73 => lk73
  | 74 => lk74
  | 75 => lk75
  | 76 => lk76
  | 77 => lk77
  | 78 => lk78
  | 79 => lk79
  | 80 => lk80
  | 81 => lk81
  | 82 => lk82
  | 83 => lk83
  | 84 => lk84
  | 85 => lk85
  | 86 => lk86
  | 87 => lk87
  | 88 => lk88
  | 89 => lk89
  | 90 => lk90
  | 91 => lk91
  | 92 => lk92
  | 93 => lk93
  | 94 => lk94
  | 95 => lk95
  | 96 => lk96
  | 97 => lk97
  | 98 => lk98
  | 99 => lk99
  | 100 => lk100
  | 101 => lk101
  | 102 => lk102
  | 103 => lk103
  | _ + 104 => trivial
theorem fe_mem : ∀ {l : List En} {pc : Nat} {x : Instr × Nat × Nat × Nat × Nat × Nat × Value × List (Int32 × Nat)}, fe l pc = some x → (pc, x) ∈ l
  | [], _, _, h => by simp [fe] at h
  | e :: r, pc, x, h => by
    unfold fe at h
    split at h
    · rename_i he
      cases h
      rw [← he]
      exact List.mem_cons_self
    · exact List.mem_cons_of_mem _ (fe_mem h)
theorem fe_good {m pc : Nat} {x : Instr × Nat × Nat × Nat × Nat × Nat × Value × List (Int32 × Nat)} (h : fe (mC m) pc = some x) : good m (pc, x) = true := List.all_eq_true.mp (ck_all m) _ (fe_mem h)
theorem fe_link {m pc : Nat} {x : Instr × Nat × Nat × Nat × Nat × Nat × Value × List (Int32 × Nat)} (h : fe (mC m) pc = some x) : LkP m (pc, x) := allP_mem (lk_all m) _ (fe_mem h)
