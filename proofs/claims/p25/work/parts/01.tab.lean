-- ===== PART A: goes FIRST, ahead of the names: the tables' words, and 'selects' of the private methods out of them =====
/-- a private method of a class that the tables say can be made, by its rows of tables_1 -/
def lw_okq (q : MethodName × Nat) : Prop := (q.1.cls ≠ "java/lang/invoke/MethodHandle" ∧ q.1.cls ≠ "java/lang/invoke/VarHandle") ∧ Cond.instantiable q.1.cls q.2 ∈ tables_1 ∧ Cond.privateMethod q.1 ∈ tables_1 ∧ Cond.instanceMethod q.1 ∈ tables_1
theorem lw_p0 : lw_okq (⟨"AntTrails$Survey", "shorten", "(LAntTrails$Ground;I)V"⟩, 2) := ⟨⟨by decide +kernel, by decide +kernel⟩, List.mem_of_getElem? (i := 172) (by decide +kernel), List.mem_of_getElem? (i := 347) (by decide +kernel), List.mem_of_getElem? (i := 348) (by decide +kernel)⟩
theorem lw_p1 : lw_okq (⟨"AntTrails$Colony", "clearLaid", "()V"⟩, 3) := ⟨⟨by decide +kernel, by decide +kernel⟩, List.mem_of_getElem? (i := 153) (by decide +kernel), List.mem_of_getElem? (i := 416) (by decide +kernel), List.mem_of_getElem? (i := 417) (by decide +kernel)⟩
theorem lw_p2 : lw_okq (⟨"AntTrails$Colony", "lookAhead", "(LAntTrails$Ground;)I"⟩, 3) := ⟨⟨by decide +kernel, by decide +kernel⟩, List.mem_of_getElem? (i := 153) (by decide +kernel), List.mem_of_getElem? (i := 433) (by decide +kernel), List.mem_of_getElem? (i := 434) (by decide +kernel)⟩
theorem lw_p3 : lw_okq (⟨"AntTrails$Colony", "pathAhead", "(LAntTrails$Ground;I)I"⟩, 3) := ⟨⟨by decide +kernel, by decide +kernel⟩, List.mem_of_getElem? (i := 153) (by decide +kernel), List.mem_of_getElem? (i := 449) (by decide +kernel), List.mem_of_getElem? (i := 450) (by decide +kernel)⟩
theorem lw_p4 : lw_okq (⟨"AntTrails$Colony", "layTrail", "(I)V"⟩, 3) := ⟨⟨by decide +kernel, by decide +kernel⟩, List.mem_of_getElem? (i := 153) (by decide +kernel), List.mem_of_getElem? (i := 474) (by decide +kernel), List.mem_of_getElem? (i := 475) (by decide +kernel)⟩
theorem lw_p5 : lw_okq (⟨"AntTrails$Survey", "greatestAhead", "(LAntTrails$Ground;)I"⟩, 2) := ⟨⟨by decide +kernel, by decide +kernel⟩, List.mem_of_getElem? (i := 172) (by decide +kernel), List.mem_of_getElem? (i := 513) (by decide +kernel), List.mem_of_getElem? (i := 514) (by decide +kernel)⟩
theorem lw_p6 : lw_okq (⟨"AntTrails$History", "dropOldest", "()V"⟩, 2) := ⟨⟨by decide +kernel, by decide +kernel⟩, List.mem_of_getElem? (i := 136) (by decide +kernel), List.mem_of_getElem? (i := 549) (by decide +kernel), List.mem_of_getElem? (i := 550) (by decide +kernel)⟩
theorem lw_p7 : lw_okq (⟨"AntTrails$Orders", "read", "(I)Z"⟩, 8) := ⟨⟨by decide +kernel, by decide +kernel⟩, List.mem_of_getElem? (i := 188) (by decide +kernel), List.mem_of_getElem? (i := 647) (by decide +kernel), List.mem_of_getElem? (i := 648) (by decide +kernel)⟩
theorem lw_p8 : lw_okq (⟨"AntTrails$Orders", "signHere", "()C"⟩, 8) := ⟨⟨by decide +kernel, by decide +kernel⟩, List.mem_of_getElem? (i := 188) (by decide +kernel), List.mem_of_getElem? (i := 651) (by decide +kernel), List.mem_of_getElem? (i := 652) (by decide +kernel)⟩
theorem lw_p9 : lw_okq (⟨"AntTrails$Orders", "skip", "(C)Z"⟩, 8) := ⟨⟨by decide +kernel, by decide +kernel⟩, List.mem_of_getElem? (i := 188) (by decide +kernel), List.mem_of_getElem? (i := 658) (by decide +kernel), List.mem_of_getElem? (i := 659) (by decide +kernel)⟩
theorem lw_p10 : lw_okq (⟨"AntTrails$Orders", "readNumber", "(I)Z"⟩, 8) := ⟨⟨by decide +kernel, by decide +kernel⟩, List.mem_of_getElem? (i := 188) (by decide +kernel), List.mem_of_getElem? (i := 662) (by decide +kernel), List.mem_of_getElem? (i := 663) (by decide +kernel)⟩
theorem lw_p11 : lw_okq (⟨"AntTrails$Orders", "noteFault", "(III)V"⟩, 8) := ⟨⟨by decide +kernel, by decide +kernel⟩, List.mem_of_getElem? (i := 188) (by decide +kernel), List.mem_of_getElem? (i := 666) (by decide +kernel), List.mem_of_getElem? (i := 667) (by decide +kernel)⟩
theorem lw_p12 : lw_okq (⟨"AntTrails$Orders", "carryOutOne", "(LAntTrails$Ground;LAntTrails$Colony;)I"⟩, 8) := ⟨⟨by decide +kernel, by decide +kernel⟩, List.mem_of_getElem? (i := 188) (by decide +kernel), List.mem_of_getElem? (i := 670) (by decide +kernel), List.mem_of_getElem? (i := 671) (by decide +kernel)⟩
def lw_privs_1 : List (MethodName × Nat) := [(⟨"AntTrails$Survey", "shorten", "(LAntTrails$Ground;I)V"⟩, 2), (⟨"AntTrails$Colony", "clearLaid", "()V"⟩, 3), (⟨"AntTrails$Colony", "lookAhead", "(LAntTrails$Ground;)I"⟩, 3), (⟨"AntTrails$Colony", "pathAhead", "(LAntTrails$Ground;I)I"⟩, 3), (⟨"AntTrails$Colony", "layTrail", "(I)V"⟩, 3), (⟨"AntTrails$Survey", "greatestAhead", "(LAntTrails$Ground;)I"⟩, 2), (⟨"AntTrails$History", "dropOldest", "()V"⟩, 2), (⟨"AntTrails$Orders", "read", "(I)Z"⟩, 8), (⟨"AntTrails$Orders", "signHere", "()C"⟩, 8), (⟨"AntTrails$Orders", "skip", "(C)Z"⟩, 8), (⟨"AntTrails$Orders", "readNumber", "(I)Z"⟩, 8), (⟨"AntTrails$Orders", "noteFault", "(III)V"⟩, 8), (⟨"AntTrails$Orders", "carryOutOne", "(LAntTrails$Ground;LAntTrails$Colony;)I"⟩, 8)]
theorem lw_r1 : ∀ q ∈ lw_privs_1, lw_okq q := List.forall_mem_cons.mpr ⟨lw_p0, List.forall_mem_cons.mpr ⟨lw_p1, List.forall_mem_cons.mpr ⟨lw_p2, List.forall_mem_cons.mpr ⟨lw_p3, List.forall_mem_cons.mpr ⟨lw_p4, List.forall_mem_cons.mpr ⟨lw_p5, List.forall_mem_cons.mpr ⟨lw_p6, List.forall_mem_cons.mpr ⟨lw_p7, List.forall_mem_cons.mpr ⟨lw_p8, List.forall_mem_cons.mpr ⟨lw_p9, List.forall_mem_cons.mpr ⟨lw_p10, List.forall_mem_cons.mpr ⟨lw_p11, List.forall_mem_cons.mpr ⟨lw_p12, fun _ h => absurd h List.not_mem_nil⟩⟩⟩⟩⟩⟩⟩⟩⟩⟩⟩⟩⟩
def lw_privs : List (MethodName × Nat) := lw_privs_1
def lw_tbl : List Cond := k2_sels lw_privs ++ tables_1
theorem lw_privs_ok : ∀ q ∈ lw_privs, lw_okq q := lw_r1
/-- the streams that the claim lets the run draw from -/
abbrev lw_cs : List Choice := [Jvm.Choice.named "NaN.bits"]
theorem lw_bits : nanBits ∈ lw_cs := by first | decide | exact List.mem_cons_self | simp [lw_cs, nanBits]
def RX0 : String := "AntTrails$Colony"
def TX0 : u_T := fun k => match k with
  | 0 => ("AntTrails$Colony", "way", "LAntTrails$Way;", true)
  | 1 => ("AntTrails$Colony", "laid", "[I", true)
  | _ => ("AntTrails$Colony", "weights", "[I", true)
def tyX0 : Nat → FieldType := fun k => match k with
  | 0 => .object "AntTrails$Way"
  | 1 => .array .int
  | _ => .array .int
abbrev wsX00 : List Cond := u_ws RX0 TX0 3
theorem nmX0 : ∀ a, a < 3 → ∀ b, b < 3 → a ≠ b → (TX0 a).2.1 ≠ (TX0 b).2.1 := by decide +kernel
theorem tyX0_ok : ∀ k, k < 3 → parseFieldDescriptor (TX0 k).2.2.1 = some (tyX0 k) := by decide +kernel
def RX1 : String := "AntTrails$Ground"
def TX1 : u_T := fun k => match k with
  | 0 => ("AntTrails$Ground", "placeCount", "I", false)
  | 1 => ("AntTrails$Ground", "came", "[I", true)
  | 2 => ("AntTrails$Ground", "stuckAt", "[I", true)
  | 3 => ("AntTrails$Ground", "pathCount", "I", false)
  | 4 => ("AntTrails$Ground", "oneEnd", "[I", true)
  | 5 => ("AntTrails$Ground", "otherEnd", "[I", true)
  | 6 => ("AntTrails$Ground", "lengths", "[I", true)
  | 7 => ("AntTrails$Ground", "trails", "[I", true)
  | 8 => ("AntTrails$Ground", "walked", "[I", true)
  | 9 => ("AntTrails$Ground", "closed", "[I", true)
  | 10 => ("AntTrails$Ground", "food", "I", false)
  | 11 => ("AntTrails$Ground", "x", "I", false)
  | 12 => ("AntTrails$Ground", "settings", "[I", true)
  | 13 => ("AntTrails$Ground", "laps", "I", false)
  | 14 => ("AntTrails$Ground", "ended", "[I", true)
  | 15 => ("AntTrails$Ground", "best", "LAntTrails$Way;", true)
  | _ => ("AntTrails$Ground", "bestLap", "I", false)
def tyX1 : Nat → FieldType := fun k => match k with
  | 0 => .int
  | 1 => .array .int
  | 2 => .array .int
  | 3 => .int
  | 4 => .array .int
  | 5 => .array .int
  | 6 => .array .int
  | 7 => .array .int
  | 8 => .array .int
  | 9 => .array .int
  | 10 => .int
  | 11 => .int
  | 12 => .array .int
  | 13 => .int
  | 14 => .array .int
  | 15 => .object "AntTrails$Way"
  | _ => .int
abbrev wsX10 : List Cond := u_ws RX1 TX1 17
theorem nmX1 : ∀ a, a < 17 → ∀ b, b < 17 → a ≠ b → (TX1 a).2.1 ≠ (TX1 b).2.1 := by decide +kernel
theorem tyX1_ok : ∀ k, k < 17 → parseFieldDescriptor (TX1 k).2.2.1 = some (tyX1 k) := by decide +kernel
def RX2 : String := "AntTrails$History"
def TX2 : u_T := fun k => match k with
  | 0 => ("AntTrails$History", "states", "[LAntTrails$Ground;", true)
  | _ => ("AntTrails$History", "kept", "I", false)
def tyX2 : Nat → FieldType := fun k => match k with
  | 0 => .array (.object "AntTrails$Ground")
  | _ => .int
abbrev wsX20 : List Cond := u_ws RX2 TX2 2
theorem nmX2 : ∀ a, a < 2 → ∀ b, b < 2 → a ≠ b → (TX2 a).2.1 ≠ (TX2 b).2.1 := by decide +kernel
theorem tyX2_ok : ∀ k, k < 2 → parseFieldDescriptor (TX2 k).2.2.1 = some (tyX2 k) := by decide +kernel
def RX3 : String := "AntTrails$Orders"
def TX3 : u_T := fun k => match k with
  | 0 => ("AntTrails$Orders", "signs", "[C", true)
  | 1 => ("AntTrails$Orders", "length", "I", false)
  | 2 => ("AntTrails$Orders", "kind", "I", false)
  | 3 => ("AntTrails$Orders", "numbers", "[I", true)
  | 4 => ("AntTrails$Orders", "at", "I", false)
  | 5 => ("AntTrails$Orders", "faultReason", "I", false)
  | 6 => ("AntTrails$Orders", "faultPosition", "I", false)
  | _ => ("AntTrails$Orders", "faultCause", "I", false)
def tyX3 : Nat → FieldType := fun k => match k with
  | 0 => .array .char
  | 1 => .int
  | 2 => .int
  | 3 => .array .int
  | 4 => .int
  | 5 => .int
  | 6 => .int
  | _ => .int
abbrev wsX30 : List Cond := u_ws RX3 TX3 8
theorem nmX3 : ∀ a, a < 8 → ∀ b, b < 8 → a ≠ b → (TX3 a).2.1 ≠ (TX3 b).2.1 := by decide +kernel
theorem tyX3_ok : ∀ k, k < 8 → parseFieldDescriptor (TX3 k).2.2.1 = some (tyX3 k) := by decide +kernel
def RX4 : String := "AntTrails$Survey"
def TX4 : u_T := fun k => match k with
  | 0 => ("AntTrails$Survey", "far", "[I", true)
  | _ => ("AntTrails$Survey", "way", "LAntTrails$Way;", true)
def tyX4 : Nat → FieldType := fun k => match k with
  | 0 => .array .int
  | _ => .object "AntTrails$Way"
abbrev wsX40 : List Cond := u_ws RX4 TX4 2
theorem nmX4 : ∀ a, a < 2 → ∀ b, b < 2 → a ≠ b → (TX4 a).2.1 ≠ (TX4 b).2.1 := by decide +kernel
theorem tyX4_ok : ∀ k, k < 2 → parseFieldDescriptor (TX4 k).2.2.1 = some (tyX4 k) := by decide +kernel
def RX5 : String := "AntTrails$Way"
def TX5 : u_T := fun k => match k with
  | 0 => ("AntTrails$Way", "places", "[I", true)
  | 1 => ("AntTrails$Way", "steps", "I", false)
  | 2 => ("AntTrails$Way", "length", "I", false)
  | 3 => ("AntTrails$Way", "pathSet", "I", false)
  | _ => ("AntTrails$Way", "placeSet", "I", false)
def tyX5 : Nat → FieldType := fun k => match k with
  | 0 => .array .int
  | 1 => .int
  | 2 => .int
  | 3 => .int
  | _ => .int
abbrev wsX50 : List Cond := u_ws RX5 TX5 5
theorem nmX5 : ∀ a, a < 5 → ∀ b, b < 5 → a ≠ b → (TX5 a).2.1 ≠ (TX5 b).2.1 := by decide +kernel
theorem tyX5_ok : ∀ k, k < 5 → parseFieldDescriptor (TX5 k).2.2.1 = some (tyX5 k) := by decide +kernel
def RX6 : String := "AntTrails"
def TX6 : u_T := fun k => match k with
  | 0 => ("AntTrails", "now", "LAntTrails$Ground;", true)
  | 1 => ("AntTrails", "tried", "LAntTrails$Ground;", true)
  | 2 => ("AntTrails", "history", "LAntTrails$History;", true)
  | 3 => ("AntTrails", "colony", "LAntTrails$Colony;", true)
  | 4 => ("AntTrails", "survey", "LAntTrails$Survey;", true)
  | _ => ("AntTrails", "orders", "LAntTrails$Orders;", true)
def tyX6 : Nat → FieldType := fun k => match k with
  | 0 => .object "AntTrails$Ground"
  | 1 => .object "AntTrails$Ground"
  | 2 => .object "AntTrails$History"
  | 3 => .object "AntTrails$Colony"
  | 4 => .object "AntTrails$Survey"
  | _ => .object "AntTrails$Orders"
abbrev wsX60 : List Cond := u_ws RX6 TX6 6
theorem nmX6 : ∀ a, a < 6 → ∀ b, b < 6 → a ≠ b → (TX6 a).2.1 ≠ (TX6 b).2.1 := by decide +kernel
theorem tyX6_ok : ∀ k, k < 6 → parseFieldDescriptor (TX6 k).2.2.1 = some (tyX6 k) := by decide +kernel
abbrev vwCl : List vw_C := [(RX0, TX0, 3), (RX1, TX1, 17), (RX2, TX2, 2), (RX3, TX3, 8), (RX4, TX4, 2), (RX5, TX5, 5), (RX6, TX6, 6)]
def mY : Nat → MethodName := fun m => match m with
  | 0 => ⟨"AntTrailsLaw", "law", "([I)Z"⟩
  | 1 => ⟨"AntTrails", "<init>", "()V"⟩
  | 2 => ⟨"AntTrails", "place", "()I"⟩
  | 3 => ⟨"AntTrails", "path", "(III)I"⟩
  | 4 => ⟨"AntTrails", "close", "(IZ)I"⟩
  | 5 => ⟨"AntTrails", "food", "(I)I"⟩
  | 6 => ⟨"AntTrails", "lap", "(I)I"⟩
  | 7 => ⟨"AntTrails", "forget", "()I"⟩
  | 8 => ⟨"AntTrails", "set", "(II)I"⟩
  | 9 => ⟨"AntTrails", "pathOf", "(II)I"⟩
  | 10 => ⟨"AntTrails", "placeOf", "(II)I"⟩
  | 11 => ⟨"AntTrails", "best", "(I)I"⟩
  | 12 => ⟨"AntTrails", "bestAt", "(I)I"⟩
  | 13 => ⟨"AntTrails", "chance", "(II)I"⟩
  | 14 => ⟨"AntTrails", "greedy", "(I)I"⟩
  | 15 => ⟨"AntTrails", "over", "()I"⟩
  | 16 => ⟨"AntTrails", "ant", "(I)I"⟩
  | 17 => ⟨"AntTrails", "would", "(II)I"⟩
  | 18 => ⟨"AntTrails", "count", "(I)I"⟩
  | 19 => ⟨"AntTrails", "undo", "()I"⟩
  | 20 => ⟨"AntTrails", "type", "(I)I"⟩
  | 21 => ⟨"AntTrails", "clearText", "()I"⟩
  | 22 => ⟨"AntTrails", "fault", "(I)I"⟩
  | 23 => ⟨"AntTrails", "play", "()I"⟩
  | 24 => ⟨"AntTrails", "isWithin", "(III)Z"⟩
  | 25 => ⟨"AntTrails", "isError", "(I)Z"⟩
  | 26 => ⟨"AntTrails", "hasBit", "(II)Z"⟩
  | 27 => ⟨"AntTrails", "copyRow", "([I[I)V"⟩
  | 28 => ⟨"AntTrails", "bitsOf", "(F)I"⟩
  | 29 => ⟨"AntTrails$Colony", "<init>", "()V"⟩
  | 30 => ⟨"AntTrails$Colony", "passLaps", "(LAntTrails$Ground;I)I"⟩
  | 31 => ⟨"AntTrails$Colony", "clearLaid", "()V"⟩
  | 32 => ⟨"AntTrails$Colony", "layTrail", "(I)V"⟩
  | 33 => ⟨"AntTrails$Colony", "walk", "(LAntTrails$Ground;)I"⟩
  | 34 => ⟨"AntTrails$Colony", "lookAhead", "(LAntTrails$Ground;)I"⟩
  | 35 => ⟨"AntTrails$Colony", "pathAhead", "(LAntTrails$Ground;I)I"⟩
  | 36 => ⟨"AntTrails$Ground", "<init>", "()V"⟩
  | 37 => ⟨"AntTrails$Ground", "copy", "(LAntTrails$Ground;LAntTrails$Ground;)V"⟩
  | 38 => ⟨"AntTrails$Ground", "isPlace", "(I)Z"⟩
  | 39 => ⟨"AntTrails$Ground", "isPath", "(I)Z"⟩
  | 40 => ⟨"AntTrails$Ground", "hasFood", "()Z"⟩
  | 41 => ⟨"AntTrails$Ground", "hasBest", "()Z"⟩
  | 42 => ⟨"AntTrails$Ground", "isClosed", "(I)Z"⟩
  | 43 => ⟨"AntTrails$Ground", "setting", "(I)I"⟩
  | 44 => ⟨"AntTrails$Ground", "lengthOf", "(I)I"⟩
  | 45 => ⟨"AntTrails$Ground", "weight", "(I)I"⟩
  | 46 => ⟨"AntTrails$Ground", "across", "(II)I"⟩
  | 47 => ⟨"AntTrails$Ground", "openPaths", "()I"⟩
  | 48 => ⟨"AntTrails$Ground", "openPathsAt", "(I)I"⟩
  | 49 => ⟨"AntTrails$Ground", "weightsAt", "(I)I"⟩
  | 50 => ⟨"AntTrails$Ground", "allTrails", "()I"⟩
  | 51 => ⟨"AntTrails$Ground", "greatestTrail", "()I"⟩
  | 52 => ⟨"AntTrails$Ground", "addPlace", "()I"⟩
  | 53 => ⟨"AntTrails$Ground", "addPath", "(III)I"⟩
  | 54 => ⟨"AntTrails$Ground", "bar", "(IZ)I"⟩
  | 55 => ⟨"AntTrails$Ground", "moveFood", "(I)I"⟩
  | 56 => ⟨"AntTrails$Ground", "clearTrails", "()I"⟩
  | 57 => ⟨"AntTrails$Ground", "changeSetting", "(II)I"⟩
  | 58 => ⟨"AntTrails$Ground", "draw", "(I)I"⟩
  | 59 => ⟨"AntTrails$Ground", "countAnt", "(LAntTrails$Way;I)V"⟩
  | 60 => ⟨"AntTrails$Ground", "keepIfBetter", "(LAntTrails$Way;)V"⟩
  | 61 => ⟨"AntTrails$Ground", "laidOn", "(LAntTrails$Way;)I"⟩
  | 62 => ⟨"AntTrails$Ground", "changeTrails", "([I)V"⟩
  | 63 => ⟨"AntTrails$History", "<init>", "()V"⟩
  | 64 => ⟨"AntTrails$History", "prepare", "(LAntTrails$Ground;)V"⟩
  | 65 => ⟨"AntTrails$History", "settle", "(I)I"⟩
  | 66 => ⟨"AntTrails$History", "dropOldest", "()V"⟩
  | 67 => ⟨"AntTrails$History", "restore", "(LAntTrails$Ground;)I"⟩
  | 68 => ⟨"AntTrails$Orders", "<init>", "()V"⟩
  | 69 => ⟨"AntTrails$Orders", "append", "(I)I"⟩
  | 70 => ⟨"AntTrails$Orders", "clear", "()I"⟩
  | 71 => ⟨"AntTrails$Orders", "carryOut", "(LAntTrails$Ground;LAntTrails$Colony;)I"⟩
  | 72 => ⟨"AntTrails$Orders", "noteFault", "(III)V"⟩
  | 73 => ⟨"AntTrails$Orders", "carryOutOne", "(LAntTrails$Ground;LAntTrails$Colony;)I"⟩
  | 74 => ⟨"AntTrails$Orders", "read", "(I)Z"⟩
  | 75 => ⟨"AntTrails$Orders", "numbersOf", "(I)I"⟩
  | 76 => ⟨"AntTrails$Orders", "signHere", "()C"⟩
  | 77 => ⟨"AntTrails$Orders", "skip", "(C)Z"⟩
  | 78 => ⟨"AntTrails$Orders", "readNumber", "(I)Z"⟩
  | 79 => ⟨"AntTrails$Survey", "<init>", "()V"⟩
  | 80 => ⟨"AntTrails$Survey", "distance", "(LAntTrails$Ground;I)I"⟩
  | 81 => ⟨"AntTrails$Survey", "shorten", "(LAntTrails$Ground;I)V"⟩
  | 82 => ⟨"AntTrails$Survey", "followTrails", "(LAntTrails$Ground;)V"⟩
  | 83 => ⟨"AntTrails$Survey", "greatestAhead", "(LAntTrails$Ground;)I"⟩
  | 84 => ⟨"AntTrails$Survey", "isGreater", "(LAntTrails$Ground;II)Z"⟩
  | 85 => ⟨"AntTrails$Way", "<init>", "()V"⟩
  | 86 => ⟨"AntTrails$Way", "begin", "()V"⟩
  | 87 => ⟨"AntTrails$Way", "go", "(III)V"⟩
  | 88 => ⟨"AntTrails$Way", "placeAt", "(I)I"⟩
  | 89 => ⟨"AntTrails$Way", "end", "()I"⟩
  | 90 => ⟨"AntTrails$Way", "hasPath", "(I)Z"⟩
  | 91 => ⟨"AntTrails$Way", "hasPlace", "(I)Z"⟩
  | 92 => ⟨"AntTrails$Way", "isNew", "(I)Z"⟩
  | 93 => ⟨"AntTrails$Way", "copy", "(LAntTrails$Way;LAntTrails$Way;)V"⟩
  | 94 => ⟨"AntTrailsLaw", "lot", "([II)I"⟩
  | 95 => ⟨"AntTrailsLaw", "low", "(II)I"⟩
  | 96 => ⟨"AntTrailsLaw", "digest", "(LAntTrails;)J"⟩
  | 97 => ⟨"AntTrailsLaw", "holds", "(LAntTrails;)Z"⟩
  | 98 => ⟨"AntTrailsLaw", "would", "(LAntTrails;I)Z"⟩
  | 99 => ⟨"AntTrailsLaw", "digits", "(LAntTrails;I)Z"⟩
  | 100 => ⟨"AntTrailsLaw", "types", "(LAntTrails;I)Z"⟩
  | 101 => ⟨"AntTrailsLaw", "reads", "(LAntTrails;)Z"⟩
  | 102 => ⟨"AntTrailsLaw", "laps", "(LAntTrails;I)Z"⟩
  | 103 => ⟨"AntTrailsLaw", "acts", "(LAntTrails;II)Z"⟩
  | _ => ⟨"", "", ""⟩
def mB : Nat → ByteArray := fun m => match m with
  | 0 => code
  | 1 => prog_1_method_1_code
  | 2 => prog_1_method_2_code
  | 3 => prog_1_method_3_code
  | 4 => prog_1_method_4_code
  | 5 => prog_1_method_5_code
  | 6 => prog_1_method_6_code
  | 7 => prog_1_method_7_code
  | 8 => prog_1_method_8_code
  | 9 => prog_1_method_9_code
  | 10 => prog_1_method_10_code
  | 11 => prog_1_method_11_code
  | 12 => prog_1_method_12_code
  | 13 => prog_1_method_13_code
  | 14 => prog_1_method_14_code
  | 15 => prog_1_method_15_code
  | 16 => prog_1_method_16_code
  | 17 => prog_1_method_17_code
  | 18 => prog_1_method_18_code
  | 19 => prog_1_method_19_code
  | 20 => prog_1_method_20_code
  | 21 => prog_1_method_21_code
  | 22 => prog_1_method_22_code
  | 23 => prog_1_method_23_code
  | 24 => prog_1_method_24_code
  | 25 => prog_1_method_25_code
  | 26 => prog_1_method_26_code
  | 27 => prog_1_method_27_code
  | 28 => prog_1_method_28_code
  | 29 => prog_2_method_1_code
  | 30 => prog_2_method_2_code
  | 31 => prog_2_method_3_code
  | 32 => prog_2_method_4_code
  | 33 => prog_2_method_5_code
  | 34 => prog_2_method_6_code
  | 35 => prog_2_method_7_code
  | 36 => prog_3_method_1_code
  | 37 => prog_3_method_2_code
  | 38 => prog_3_method_3_code
  | 39 => prog_3_method_4_code
  | 40 => prog_3_method_5_code
  | 41 => prog_3_method_6_code
  | 42 => prog_3_method_7_code
  | 43 => prog_3_method_8_code
  | 44 => prog_3_method_9_code
  | 45 => prog_3_method_10_code
  | 46 => prog_3_method_11_code
  | 47 => prog_3_method_12_code
  | 48 => prog_3_method_13_code
  | 49 => prog_3_method_14_code
  | 50 => prog_3_method_15_code
  | 51 => prog_3_method_16_code
  | 52 => prog_3_method_17_code
  | 53 => prog_3_method_18_code
  | 54 => prog_3_method_19_code
  | 55 => prog_3_method_20_code
  | 56 => prog_3_method_21_code
  | 57 => prog_3_method_22_code
  | 58 => prog_3_method_23_code
  | 59 => prog_3_method_24_code
  | 60 => prog_3_method_25_code
  | 61 => prog_3_method_26_code
  | 62 => prog_3_method_27_code
  | 63 => prog_4_method_1_code
  | 64 => prog_4_method_2_code
  | 65 => prog_4_method_3_code
  | 66 => prog_4_method_4_code
  | 67 => prog_4_method_5_code
  | 68 => prog_5_method_1_code
  | 69 => prog_5_method_2_code
  | 70 => prog_5_method_3_code
  | 71 => prog_5_method_4_code
  | 72 => prog_5_method_5_code
  | 73 => prog_5_method_6_code
  | 74 => prog_5_method_7_code
  | 75 => prog_5_method_8_code
  | 76 => prog_5_method_9_code
  | 77 => prog_5_method_10_code
  | 78 => prog_5_method_11_code
  | 79 => prog_6_method_1_code
  | 80 => prog_6_method_2_code
  | 81 => prog_6_method_3_code
  | 82 => prog_6_method_4_code
  | 83 => prog_6_method_5_code
  | 84 => prog_6_method_6_code
  | 85 => prog_7_method_1_code
  | 86 => prog_7_method_2_code
  | 87 => prog_7_method_3_code
  | 88 => prog_7_method_4_code
  | 89 => prog_7_method_5_code
  | 90 => prog_7_method_6_code
  | 91 => prog_7_method_7_code
  | 92 => prog_7_method_8_code
  | 93 => prog_7_method_9_code
  | 94 => method_2_code
  | 95 => method_3_code
  | 96 => method_4_code
  | 97 => method_5_code
  | 98 => method_6_code
  | 99 => method_7_code
  | 100 => method_8_code
  | 101 => method_9_code
  | 102 => method_10_code
  | 103 => method_11_code
  | _ => code
def mL : Nat → Nat := fun m => match m with
  | 0 => 11
  | 1 => 1
  | 2 => 1
  | 3 => 4
  | 4 => 3
  | 5 => 2
  | 6 => 2
  | 7 => 1
  | 8 => 3
  | 9 => 3
  | 10 => 3
  | 11 => 2
  | 12 => 2
  | 13 => 4
  | 14 => 2
  | 15 => 2
  | 16 => 3
  | 17 => 4
  | 18 => 2
  | 19 => 1
  | 20 => 2
  | 21 => 1
  | 22 => 2
  | 23 => 2
  | 24 => 3
  | 25 => 1
  | 26 => 2
  | 27 => 3
  | 28 => 4
  | 29 => 1
  | 30 => 8
  | 31 => 2
  | 32 => 3
  | 33 => 6
  | 34 => 5
  | 35 => 5
  | 36 => 1
  | 37 => 2
  | 38 => 2
  | 39 => 2
  | 40 => 1
  | 41 => 1
  | 42 => 2
  | 43 => 2
  | 44 => 2
  | 45 => 2
  | 46 => 3
  | 47 => 3
  | 48 => 4
  | 49 => 4
  | 50 => 3
  | 51 => 3
  | 52 => 1
  | 53 => 5
  | 54 => 3
  | 55 => 3
  | 56 => 3
  | 57 => 4
  | 58 => 2
  | 59 => 4
  | 60 => 2
  | 61 => 2
  | 62 => 5
  | 63 => 2
  | 64 => 2
  | 65 => 2
  | 66 => 3
  | 67 => 2
  | 68 => 1
  | 69 => 2
  | 70 => 2
  | 71 => 6
  | 72 => 4
  | 73 => 3
  | 74 => 4
  | 75 => 1
  | 76 => 1
  | 77 => 2
  | 78 => 4
  | 79 => 1
  | 80 => 5
  | 81 => 5
  | 82 => 4
  | 83 => 6
  | 84 => 3
  | 85 => 1
  | 86 => 1
  | 87 => 4
  | 88 => 2
  | 89 => 1
  | 90 => 2
  | 91 => 2
  | 92 => 2
  | 93 => 2
  | 94 => 2
  | 95 => 2
  | 96 => 5
  | 97 => 11
  | 98 => 9
  | 99 => 2
  | 100 => 10
  | 101 => 8
  | 102 => 11
  | 103 => 12
  | _ => 0
def mR : Nat → Option FieldType := fun m => match m with
  | 0 => some .boolean
  | 1 => none
  | 2 => some .int
  | 3 => some .int
  | 4 => some .int
  | 5 => some .int
  | 6 => some .int
  | 7 => some .int
  | 8 => some .int
  | 9 => some .int
  | 10 => some .int
  | 11 => some .int
  | 12 => some .int
  | 13 => some .int
  | 14 => some .int
  | 15 => some .int
  | 16 => some .int
  | 17 => some .int
  | 18 => some .int
  | 19 => some .int
  | 20 => some .int
  | 21 => some .int
  | 22 => some .int
  | 23 => some .int
  | 24 => some .boolean
  | 25 => some .boolean
  | 26 => some .boolean
  | 27 => none
  | 28 => some .int
  | 29 => none
  | 30 => some .int
  | 31 => none
  | 32 => none
  | 33 => some .int
  | 34 => some .int
  | 35 => some .int
  | 36 => none
  | 37 => none
  | 38 => some .boolean
  | 39 => some .boolean
  | 40 => some .boolean
  | 41 => some .boolean
  | 42 => some .boolean
  | 43 => some .int
  | 44 => some .int
  | 45 => some .int
  | 46 => some .int
  | 47 => some .int
  | 48 => some .int
  | 49 => some .int
  | 50 => some .int
  | 51 => some .int
  | 52 => some .int
  | 53 => some .int
  | 54 => some .int
  | 55 => some .int
  | 56 => some .int
  | 57 => some .int
  | 58 => some .int
  | 59 => none
  | 60 => none
  | 61 => some .int
  | 62 => none
  | 63 => none
  | 64 => none
  | 65 => some .int
  | 66 => none
  | 67 => some .int
  | 68 => none
  | 69 => some .int
  | 70 => some .int
  | 71 => some .int
  | 72 => none
  | 73 => some .int
  | 74 => some .boolean
  | 75 => some .int
  | 76 => some .char
  | 77 => some .boolean
  | 78 => some .boolean
  | 79 => none
  | 80 => some .int
  | 81 => none
  | 82 => none
  | 83 => some .int
  | 84 => some .boolean
  | 85 => none
  | 86 => none
  | 87 => none
  | 88 => some .int
  | 89 => some .int
  | 90 => some .boolean
  | 91 => some .boolean
  | 92 => some .boolean
  | 93 => none
  | 94 => some .int
  | 95 => some .int
  | 96 => some .long
  | 97 => some .boolean
  | 98 => some .boolean
  | 99 => some .boolean
  | 100 => some .boolean
  | 101 => some .boolean
  | 102 => some .boolean
  | 103 => some .boolean
  | _ => none
def mK : Nat → Nat := fun m => match m with
  | 0 => 10
  | 1 => 4
  | 2 => 4
  | 3 => 4
  | 4 => 4
  | 5 => 4
  | 6 => 5
  | 7 => 4
  | 8 => 4
  | 9 => 2
  | 10 => 4
  | 11 => 1
  | 12 => 1
  | 13 => 3
  | 14 => 4
  | 15 => 4
  | 16 => 4
  | 17 => 5
  | 18 => 3
  | 19 => 4
  | 20 => 2
  | 21 => 1
  | 22 => 7
  | 23 => 7
  | 24 => 0
  | 25 => 0
  | 26 => 0
  | 27 => 0
  | 28 => 0
  | 29 => 2
  | 30 => 4
  | 31 => 0
  | 32 => 2
  | 33 => 3
  | 34 => 2
  | 35 => 0
  | 36 => 2
  | 37 => 2
  | 38 => 0
  | 39 => 0
  | 40 => 0
  | 41 => 0
  | 42 => 1
  | 43 => 0
  | 44 => 1
  | 45 => 1
  | 46 => 1
  | 47 => 2
  | 48 => 2
  | 49 => 2
  | 50 => 0
  | 51 => 1
  | 52 => 0
  | 53 => 1
  | 54 => 3
  | 55 => 1
  | 56 => 1
  | 57 => 1
  | 58 => 0
  | 59 => 2
  | 60 => 2
  | 61 => 1
  | 62 => 2
  | 63 => 3
  | 64 => 3
  | 65 => 1
  | 66 => 0
  | 67 => 3
  | 68 => 1
  | 69 => 1
  | 70 => 0
  | 71 => 6
  | 72 => 0
  | 73 => 5
  | 74 => 2
  | 75 => 0
  | 76 => 0
  | 77 => 1
  | 78 => 1
  | 79 => 2
  | 80 => 3
  | 81 => 2
  | 82 => 3
  | 83 => 2
  | 84 => 1
  | 85 => 1
  | 86 => 0
  | 87 => 0
  | 88 => 0
  | 89 => 1
  | 90 => 1
  | 91 => 1
  | 92 => 1
  | 93 => 1
  | 94 => 0
  | 95 => 0
  | 96 => 5
  | 97 => 5
  | 98 => 6
  | 99 => 3
  | 100 => 4
  | 101 => 8
  | 102 => 6
  | 103 => 9
  | _ => 0
def mW : Nat → Nat × Nat × Nat × Nat := fun m => match m with
  | 0 => (0, 0, 0, 0)
  | 1 => (26, 25, 0, 14)
  | 2 => (546, 544, 545, 14)
  | 3 => (569, 567, 568, 14)
  | 4 => (579, 577, 578, 14)
  | 5 => (589, 587, 588, 14)
  | 6 => (622, 620, 621, 14)
  | 7 => (598, 596, 597, 14)
  | 8 => (607, 605, 606, 14)
  | 9 => (322, 320, 321, 14)
  | 10 => (339, 337, 338, 14)
  | 11 => (380, 378, 379, 14)
  | 12 => (385, 383, 384, 14)
  | 13 => (397, 395, 396, 14)
  | 14 => (518, 516, 517, 14)
  | 15 => (539, 537, 538, 14)
  | 16 => (508, 506, 507, 14)
  | 17 => (414, 412, 413, 14)
  | 18 => (258, 256, 257, 14)
  | 19 => (293, 291, 292, 14)
  | 20 => (637, 635, 636, 14)
  | 21 => (629, 627, 628, 14)
  | 22 => (654, 652, 653, 14)
  | 23 => (695, 693, 694, 14)
  | 24 => (261, 260, 0, 14)
  | 25 => (504, 503, 0, 14)
  | 26 => (335, 334, 0, 14)
  | 27 => (69, 68, 0, 14)
  | 28 => (406, 405, 0, 14)
  | 29 => (169, 168, 0, 18)
  | 30 => (419, 417, 418, 18)
  | 31 => (431, 430, 1, 18)
  | 32 => (489, 488, 4, 18)
  | 33 => (435, 433, 434, 18)
  | 34 => (448, 447, 2, 18)
  | 35 => (464, 463, 3, 18)
  | 36 => (34, 33, 0, 15)
  | 37 => (301, 300, 0, 15)
  | 38 => (343, 341, 342, 15)
  | 39 => (277, 275, 276, 15)
  | 40 => (425, 423, 424, 15)
  | 41 => (372, 370, 371, 15)
  | 42 => (273, 271, 272, 15)
  | 43 => (265, 263, 264, 15)
  | 44 => (468, 466, 467, 15)
  | 45 => (328, 326, 327, 15)
  | 46 => (351, 349, 350, 15)
  | 47 => (269, 267, 268, 15)
  | 48 => (347, 345, 346, 15)
  | 49 => (401, 399, 400, 15)
  | 50 => (281, 279, 280, 15)
  | 51 => (285, 283, 284, 15)
  | 52 => (554, 552, 553, 15)
  | 53 => (573, 571, 572, 15)
  | 54 => (583, 581, 582, 15)
  | 55 => (593, 591, 592, 15)
  | 56 => (602, 600, 601, 15)
  | 57 => (611, 609, 610, 15)
  | 58 => (458, 456, 457, 15)
  | 59 => (476, 474, 475, 15)
  | 60 => (494, 492, 493, 15)
  | 61 => (484, 482, 483, 15)
  | 62 => (499, 497, 498, 15)
  | 63 => (152, 151, 0, 17)
  | 64 => (550, 548, 549, 17)
  | 65 => (559, 557, 558, 17)
  | 66 => (564, 563, 6, 17)
  | 67 => (297, 295, 296, 17)
  | 68 => (204, 203, 0, 20)
  | 69 => (641, 639, 640, 20)
  | 70 => (633, 631, 632, 20)
  | 71 => (658, 656, 657, 20)
  | 72 => (681, 680, 11, 20)
  | 73 => (685, 684, 12, 20)
  | 74 => (662, 661, 7, 20)
  | 75 => (669, 668, 0, 20)
  | 76 => (666, 665, 8, 20)
  | 77 => (673, 672, 9, 20)
  | 78 => (677, 676, 10, 20)
  | 79 => (188, 187, 0, 19)
  | 80 => (355, 353, 354, 19)
  | 81 => (362, 361, 0, 19)
  | 82 => (522, 520, 521, 19)
  | 83 => (528, 527, 5, 19)
  | 84 => (533, 532, 0, 19)
  | 85 => (40, 39, 0, 16)
  | 86 => (439, 437, 438, 16)
  | 87 => (472, 470, 471, 16)
  | 88 => (389, 387, 388, 16)
  | 89 => (443, 441, 442, 16)
  | 90 => (332, 330, 331, 16)
  | 91 => (376, 374, 375, 16)
  | 92 => (453, 451, 452, 16)
  | 93 => (304, 303, 0, 16)
  | 94 => (308, 307, 0, 13)
  | 95 => (312, 311, 0, 13)
  | 96 => (316, 315, 0, 13)
  | 97 => (392, 391, 0, 13)
  | 98 => (410, 409, 0, 13)
  | 99 => (647, 646, 0, 13)
  | 100 => (625, 624, 0, 13)
  | 101 => (650, 649, 0, 13)
  | 102 => (618, 617, 0, 13)
  | 103 => (542, 541, 0, 13)
  | _ => (0, 0, 0, 0)
abbrev En := Nat × Instr × Nat × Nat × Nat × Nat × Nat × Value × List (Int32 × Nat)
def cd0_0 : List En := [(0, .new 14, 3, 16, 6, 0, 22, .null, []),
  (3, .dup, 4, 0, 0, 0, 0, .null, []),
  (4, .invokespecial 106, 7, 1, 0, 16, 24, .retAddr 1, []),
  (7, .astore_n 1, 8, 0, 0, 0, 0, .null, []),
  (8, .aload_n 1, 9, 0, 0, 0, 0, .null, []),
  (9, .invokestatic 107, 12, 97, 10, 0, 390, .retAddr 1, []),
  (12, .ifCond .eq 24, 15, 36, 0, 0, 0, .null, []),
  (15, .aload_n 1, 16, 0, 0, 0, 0, .null, []),
  (16, .iconst 0, 17, 0, 0, 0, 0, .int (nI 0), []),
  (17, .invokestatic 110, 20, 98, 7, 0, 408, .retAddr 2, []),
  (20, .ifCond .eq 16, 23, 36, 0, 0, 0, .null, []),
  (23, .aload_n 1, 24, 0, 0, 0, 0, .null, []),
  (24, .invokevirtual 112, 27, 19, 0, 16, 290, .retAddr 1, []),
  (27, .ldc 48, 29, 0, 0, 0, 514, .int ((-1000000002)), []),
  (29, .if_icmp .ne 7, 32, 36, 0, 0, 0, .null, []),
  (32, .iconst 1, 33, 0, 0, 0, 0, .int (nI 1), []),
  (33, .goto 4, 36, 37, 0, 0, 0, .null, []),
  (36, .iconst 0, 37, 0, 0, 0, 0, .int (nI 0), []),
  (37, .istore_n 2, 38, 0, 0, 0, 0, .null, []),
  (38, .iconst 0, 39, 0, 0, 0, 0, .int (nI 0), []),
  (39, .istore_n 3, 40, 0, 0, 0, 0, .null, []),
  (40, .iload_n 3, 41, 0, 0, 0, 0, .null, []),
  (41, .bipush 48, 43, 0, 0, 0, 0, .int (nI 48), []),
  (43, .if_icmp .ge 261, 46, 304, 0, 0, 0, .null, []),
  (46, .iload_n 2, 47, 0, 0, 0, 0, .null, []),
  (47, .ifCond .eq 257, 50, 304, 0, 0, 0, .null, []),
  (50, .iload_n 3, 51, 0, 0, 0, 0, .null, []),
  (51, .iconst 4, 52, 0, 0, 0, 0, .int (nI 4), []),
  (52, .if_icmp .ge 7, 55, 59, 0, 0, 0, .null, []),
  (55, .iconst 0, 56, 0, 0, 0, 0, .int (nI 0), []),
  (56, .goto 20, 59, 76, 0, 0, 0, .null, []),
  (59, .iload_n 3, 60, 0, 0, 0, 0, .null, []),
  (60, .bipush 9, 62, 0, 0, 0, 0, .int (nI 9), []),
  (62, .if_icmp .ge 7, 65, 69, 0, 0, 0, .null, []),
  (65, .iconst 2, 66, 0, 0, 0, 0, .int (nI 2), []),
  (66, .goto 10, 69, 76, 0, 0, 0, .null, []),
  (69, .aload_n 0, 70, 0, 0, 0, 0, .null, []),
  (70, .iconst 2, 71, 0, 0, 0, 0, .int (nI 2), []),
  (71, .iload_n 3, 72, 0, 0, 0, 0, .null, []),
  (72, .imul, 73, 0, 0, 0, 0, .null, []),
  (73, .invokestatic 115, 76, 94, 0, 0, 306, .retAddr 2, []),
  (76, .istore 4, 78, 0, 0, 0, 0, .null, []),
  (78, .aload_n 0, 79, 0, 0, 0, 0, .null, []),
  (79, .iconst 2, 80, 0, 0, 0, 0, .int (nI 2), []),
  (80, .iload_n 3, 81, 0, 0, 0, 0, .null, []),
  (81, .imul, 82, 0, 0, 0, 0, .null, []),
  (82, .iconst 1, 83, 0, 0, 0, 0, .int (nI 1), []),
  (83, .iadd, 84, 0, 0, 0, 0, .null, []),
  (84, .invokestatic 115, 87, 94, 0, 0, 306, .retAddr 2, []),
  (87, .istore 5, 89, 0, 0, 0, 0, .null, [])]
def cd0_1 : List En := [(89, .aload_n 1, 90, 0, 0, 0, 0, .null, []),
  (90, .invokestatic 119, 93, 96, 4, 0, 314, .retAddr 1, []),
  (93, .lstore 6, 95, 0, 0, 0, 0, .null, []),
  (95, .aload_n 1, 96, 0, 0, 0, 0, .null, []),
  (96, .bipush 12, 98, 0, 0, 0, 0, .int (nI 12), []),
  (98, .invokevirtual 13, 101, 18, 0, 16, 255, .retAddr 2, []),
  (101, .istore 8, 103, 0, 0, 0, 0, .null, []),
  (103, .aload_n 1, 104, 0, 0, 0, 0, .null, []),
  (104, .iload 4, 106, 0, 0, 0, 0, .null, []),
  (106, .iload 5, 108, 0, 0, 0, 0, .null, []),
  (108, .invokestatic 123, 111, 103, 9, 0, 540, .retAddr 3, []),
  (111, .ifCond .eq 37, 114, 148, 0, 0, 0, .null, []),
  (114, .iload_n 3, 115, 0, 0, 0, 0, .null, []),
  (115, .iconst 3, 116, 0, 0, 0, 0, .int (nI 3), []),
  (116, .irem, 117, 0, 0, 0, 0, .null, []),
  (117, .ifCond .gt 10, 120, 127, 0, 0, 0, .null, []),
  (120, .aload_n 1, 121, 0, 0, 0, 0, .null, []),
  (121, .invokestatic 107, 124, 97, 10, 0, 390, .retAddr 1, []),
  (124, .ifCond .eq 24, 127, 148, 0, 0, 0, .null, []),
  (127, .iload_n 3, 128, 0, 0, 0, 0, .null, []),
  (128, .bipush 6, 130, 0, 0, 0, 0, .int (nI 6), []),
  (130, .irem, 131, 0, 0, 0, 0, .null, []),
  (131, .iconst 4, 132, 0, 0, 0, 0, .int (nI 4), []),
  (132, .if_icmp .ne 12, 135, 144, 0, 0, 0, .null, []),
  (135, .aload_n 1, 136, 0, 0, 0, 0, .null, []),
  (136, .iload 5, 138, 0, 0, 0, 0, .null, []),
  (138, .invokestatic 110, 141, 98, 7, 0, 408, .retAddr 2, []),
  (141, .ifCond .eq 7, 144, 148, 0, 0, 0, .null, []),
  (144, .iconst 1, 145, 0, 0, 0, 0, .int (nI 1), []),
  (145, .goto 4, 148, 149, 0, 0, 0, .null, []),
  (148, .iconst 0, 149, 0, 0, 0, 0, .int (nI 0), []),
  (149, .istore_n 2, 150, 0, 0, 0, 0, .null, []),
  (150, .aload_n 1, 151, 0, 0, 0, 0, .null, []),
  (151, .bipush 12, 153, 0, 0, 0, 0, .int (nI 12), []),
  (153, .invokevirtual 13, 156, 18, 0, 16, 255, .retAddr 2, []),
  (156, .istore 9, 158, 0, 0, 0, 0, .null, []),
  (158, .iload_n 2, 159, 0, 0, 0, 0, .null, []),
  (159, .ifCond .eq 39, 162, 198, 0, 0, 0, .null, []),
  (162, .iload 9, 164, 0, 0, 0, 0, .null, []),
  (164, .iload 8, 166, 0, 0, 0, 0, .null, []),
  (166, .if_icmp .ne 19, 169, 185, 0, 0, 0, .null, []),
  (169, .iload 8, 171, 0, 0, 0, 0, .null, []),
  (171, .iconst 4, 172, 0, 0, 0, 0, .int (nI 4), []),
  (172, .if_icmp .eq 22, 175, 194, 0, 0, 0, .null, []),
  (175, .aload_n 1, 176, 0, 0, 0, 0, .null, []),
  (176, .invokestatic 119, 179, 96, 4, 0, 314, .retAddr 1, []),
  (179, .lload 6, 181, 0, 0, 0, 0, .null, []),
  (181, .lcmp, 182, 0, 0, 0, 0, .null, []),
  (182, .ifCond .eq 12, 185, 194, 0, 0, 0, .null, []),
  (185, .iload 9, 187, 0, 0, 0, 0, .null, [])]
def cd0_2 : List En := [(187, .iload 8, 189, 0, 0, 0, 0, .null, []),
  (189, .iconst 1, 190, 0, 0, 0, 0, .int (nI 1), []),
  (190, .iadd, 191, 0, 0, 0, 0, .null, []),
  (191, .if_icmp .ne 7, 194, 198, 0, 0, 0, .null, []),
  (194, .iconst 1, 195, 0, 0, 0, 0, .int (nI 1), []),
  (195, .goto 4, 198, 199, 0, 0, 0, .null, []),
  (198, .iconst 0, 199, 0, 0, 0, 0, .int (nI 0), []),
  (199, .istore_n 2, 200, 0, 0, 0, 0, .null, []),
  (200, .iload_n 2, 201, 0, 0, 0, 0, .null, []),
  (201, .ifCond .eq 49, 204, 250, 0, 0, 0, .null, []),
  (204, .iload 9, 206, 0, 0, 0, 0, .null, []),
  (206, .iload 8, 208, 0, 0, 0, 0, .null, []),
  (208, .iconst 1, 209, 0, 0, 0, 0, .int (nI 1), []),
  (209, .iadd, 210, 0, 0, 0, 0, .null, []),
  (210, .if_icmp .ne 40, 213, 250, 0, 0, 0, .null, []),
  (213, .iload 5, 215, 0, 0, 0, 0, .null, []),
  (215, .bipush 8, 217, 0, 0, 0, 0, .int (nI 8), []),
  (217, .ishr, 218, 0, 0, 0, 0, .null, []),
  (218, .iconst 3, 219, 0, 0, 0, 0, .int (nI 3), []),
  (219, .invokestatic 38, 222, 95, 0, 0, 310, .retAddr 2, []),
  (222, .ifCond .ne 28, 225, 250, 0, 0, 0, .null, []),
  (225, .aload_n 1, 226, 0, 0, 0, 0, .null, []),
  (226, .invokevirtual 112, 229, 19, 0, 16, 290, .retAddr 1, []),
  (229, .iload 8, 231, 0, 0, 0, 0, .null, []),
  (231, .if_icmp .ne 17, 234, 248, 0, 0, 0, .null, []),
  (234, .aload_n 1, 235, 0, 0, 0, 0, .null, []),
  (235, .invokestatic 119, 238, 96, 4, 0, 314, .retAddr 1, []),
  (238, .lload 6, 240, 0, 0, 0, 0, .null, []),
  (240, .lcmp, 241, 0, 0, 0, 0, .null, []),
  (241, .ifCond .ne 7, 244, 248, 0, 0, 0, .null, []),
  (244, .iconst 1, 245, 0, 0, 0, 0, .int (nI 1), []),
  (245, .goto 4, 248, 249, 0, 0, 0, .null, []),
  (248, .iconst 0, 249, 0, 0, 0, 0, .int (nI 0), []),
  (249, .istore_n 2, 250, 0, 0, 0, 0, .null, []),
  (250, .iload_n 2, 251, 0, 0, 0, 0, .null, []),
  (251, .ifCond .eq 47, 254, 298, 0, 0, 0, .null, []),
  (254, .iload_n 3, 255, 0, 0, 0, 0, .null, []),
  (255, .bipush 11, 257, 0, 0, 0, 0, .int (nI 11), []),
  (257, .irem, 258, 0, 0, 0, 0, .null, []),
  (258, .bipush 10, 260, 0, 0, 0, 0, .int (nI 10), []),
  (260, .if_icmp .ne 38, 263, 298, 0, 0, 0, .null, []),
  (263, .aload_n 1, 264, 0, 0, 0, 0, .null, []),
  (264, .bipush 12, 266, 0, 0, 0, 0, .int (nI 12), []),
  (266, .invokevirtual 13, 269, 18, 0, 16, 255, .retAddr 2, []),
  (269, .istore 10, 271, 0, 0, 0, 0, .null, []),
  (271, .aload_n 1, 272, 0, 0, 0, 0, .null, []),
  (272, .invokevirtual 112, 275, 19, 0, 16, 290, .retAddr 1, []),
  (275, .iload 10, 277, 0, 0, 0, 0, .null, []),
  (277, .ifCond .ne 8, 280, 285, 0, 0, 0, .null, []),
  (280, .ldc 48, 282, 0, 0, 0, 514, .int ((-1000000002)), [])]
def cd0_3 : List En := [(282, .goto 7, 285, 289, 0, 0, 0, .null, []),
  (285, .iload 10, 287, 0, 0, 0, 0, .null, []),
  (287, .iconst 1, 288, 0, 0, 0, 0, .int (nI 1), []),
  (288, .isub, 289, 0, 0, 0, 0, .null, []),
  (289, .if_icmp .ne 7, 292, 296, 0, 0, 0, .null, []),
  (292, .iconst 1, 293, 0, 0, 0, 0, .int (nI 1), []),
  (293, .goto 4, 296, 297, 0, 0, 0, .null, []),
  (296, .iconst 0, 297, 0, 0, 0, 0, .int (nI 0), []),
  (297, .istore_n 2, 298, 0, 0, 0, 0, .null, []),
  (298, .iinc 3 1, 301, 0, 0, 0, 0, .null, []),
  (301, .goto (-261), 304, 40, 0, 0, 0, .null, []),
  (304, .iload_n 2, 305, 0, 0, 0, 0, .null, []),
  (305, .ifCond .eq 14, 308, 319, 0, 0, 0, .null, []),
  (308, .aload_n 1, 309, 0, 0, 0, 0, .null, []),
  (309, .invokestatic 107, 312, 97, 10, 0, 390, .retAddr 1, []),
  (312, .ifCond .eq 7, 315, 319, 0, 0, 0, .null, []),
  (315, .iconst 1, 316, 0, 0, 0, 0, .int (nI 1), []),
  (316, .goto 4, 319, 320, 0, 0, 0, .null, []),
  (319, .iconst 0, 320, 0, 0, 0, 0, .int (nI 0), []),
  (320, .ireturn, 321, 0, 0, 0, 0, .int 1, [])]
def cd0 : List En := cd0_0 ++ (cd0_1 ++ (cd0_2 ++ (cd0_3)))
def cd1 : List En := [(0, .aload_n 0, 1, 0, 0, 0, 0, .null, []),
  (1, .invokespecial 1, 4, 900, 0, 0, 27, .null, []),
  (4, .aload_n 0, 5, 0, 0, 0, 0, .null, []),
  (5, .new 7, 8, 11, 17, 0, 30, .null, []),
  (8, .dup, 9, 0, 0, 0, 0, .null, []),
  (9, .invokespecial 9, 12, 36, 0, 11, 32, .retAddr 1, []),
  (12, .putfield 10, 15, 16, 0, 0, 236, .null, []),
  (15, .aload_n 0, 16, 0, 0, 0, 0, .null, []),
  (16, .new 7, 19, 11, 17, 0, 30, .null, []),
  (19, .dup, 20, 0, 0, 0, 0, .null, []),
  (20, .invokespecial 9, 23, 36, 0, 11, 32, .retAddr 1, []),
  (23, .putfield 16, 26, 16, 1, 0, 237, .null, []),
  (26, .aload_n 0, 27, 0, 0, 0, 0, .null, []),
  (27, .new 19, 30, 12, 2, 0, 148, .null, []),
  (30, .dup, 31, 0, 0, 0, 0, .null, []),
  (31, .invokespecial 21, 34, 63, 1, 12, 150, .retAddr 1, []),
  (34, .putfield 22, 37, 16, 2, 0, 238, .null, []),
  (37, .aload_n 0, 38, 0, 0, 0, 0, .null, []),
  (38, .new 26, 41, 10, 3, 0, 165, .null, []),
  (41, .dup, 42, 0, 0, 0, 0, .null, []),
  (42, .invokespecial 28, 45, 29, 0, 10, 167, .retAddr 1, []),
  (45, .putfield 29, 48, 16, 3, 0, 239, .null, []),
  (48, .aload_n 0, 49, 0, 0, 0, 0, .null, []),
  (49, .new 33, 52, 14, 2, 0, 184, .null, []),
  (52, .dup, 53, 0, 0, 0, 0, .null, []),
  (53, .invokespecial 35, 56, 79, 0, 14, 186, .retAddr 1, []),
  (56, .putfield 36, 59, 16, 4, 0, 240, .null, []),
  (59, .aload_n 0, 60, 0, 0, 0, 0, .null, []),
  (60, .new 40, 63, 13, 8, 0, 200, .null, []),
  (63, .dup, 64, 0, 0, 0, 0, .null, []),
  (64, .invokespecial 42, 67, 68, 0, 13, 202, .retAddr 1, []),
  (67, .putfield 43, 70, 16, 5, 0, 241, .null, []),
  (70, .return_, 71, 0, 0, 0, 0, .null, [])]
def cd2 : List En := [(0, .aload_n 0, 1, 0, 0, 0, 0, .null, []),
  (1, .getfield 22, 4, 16, 2, 0, 238, .null, []),
  (4, .aload_n 0, 5, 0, 0, 0, 0, .null, []),
  (5, .getfield 10, 8, 16, 0, 0, 236, .null, []),
  (8, .invokevirtual 47, 11, 64, 0, 12, 547, .retAddr 2, []),
  (11, .aload_n 0, 12, 0, 0, 0, 0, .null, []),
  (12, .getfield 22, 15, 16, 2, 0, 238, .null, []),
  (15, .aload_n 0, 16, 0, 0, 0, 0, .null, []),
  (16, .getfield 10, 19, 16, 0, 0, 236, .null, []),
  (19, .invokevirtual 51, 22, 52, 0, 11, 551, .retAddr 1, []),
  (22, .invokevirtual 55, 25, 65, 0, 12, 556, .retAddr 2, []),
  (25, .ireturn, 26, 0, 0, 0, 0, .int 0, [])]
def cd3 : List En := [(0, .aload_n 0, 1, 0, 0, 0, 0, .null, []),
  (1, .getfield 22, 4, 16, 2, 0, 238, .null, []),
  (4, .aload_n 0, 5, 0, 0, 0, 0, .null, []),
  (5, .getfield 10, 8, 16, 0, 0, 236, .null, []),
  (8, .invokevirtual 47, 11, 64, 0, 12, 547, .retAddr 2, []),
  (11, .aload_n 0, 12, 0, 0, 0, 0, .null, []),
  (12, .getfield 22, 15, 16, 2, 0, 238, .null, []),
  (15, .aload_n 0, 16, 0, 0, 0, 0, .null, []),
  (16, .getfield 10, 19, 16, 0, 0, 236, .null, []),
  (19, .iload_n 1, 20, 0, 0, 0, 0, .null, []),
  (20, .iload_n 2, 21, 0, 0, 0, 0, .null, []),
  (21, .iload_n 3, 22, 0, 0, 0, 0, .null, []),
  (22, .invokevirtual 59, 25, 53, 1, 11, 570, .retAddr 4, []),
  (25, .invokevirtual 55, 28, 65, 0, 12, 556, .retAddr 2, []),
  (28, .ireturn, 29, 0, 0, 0, 0, .int 0, [])]
def cd4 : List En := [(0, .aload_n 0, 1, 0, 0, 0, 0, .null, []),
  (1, .getfield 22, 4, 16, 2, 0, 238, .null, []),
  (4, .aload_n 0, 5, 0, 0, 0, 0, .null, []),
  (5, .getfield 10, 8, 16, 0, 0, 236, .null, []),
  (8, .invokevirtual 47, 11, 64, 0, 12, 547, .retAddr 2, []),
  (11, .aload_n 0, 12, 0, 0, 0, 0, .null, []),
  (12, .getfield 22, 15, 16, 2, 0, 238, .null, []),
  (15, .aload_n 0, 16, 0, 0, 0, 0, .null, []),
  (16, .getfield 10, 19, 16, 0, 0, 236, .null, []),
  (19, .iload_n 1, 20, 0, 0, 0, 0, .null, []),
  (20, .iload_n 2, 21, 0, 0, 0, 0, .null, []),
  (21, .invokevirtual 63, 24, 54, 0, 11, 580, .retAddr 3, []),
  (24, .invokevirtual 55, 27, 65, 0, 12, 556, .retAddr 2, []),
  (27, .ireturn, 28, 0, 0, 0, 0, .int 0, [])]
def cd5 : List En := [(0, .aload_n 0, 1, 0, 0, 0, 0, .null, []),
  (1, .getfield 22, 4, 16, 2, 0, 238, .null, []),
  (4, .aload_n 0, 5, 0, 0, 0, 0, .null, []),
  (5, .getfield 10, 8, 16, 0, 0, 236, .null, []),
  (8, .invokevirtual 47, 11, 64, 0, 12, 547, .retAddr 2, []),
  (11, .aload_n 0, 12, 0, 0, 0, 0, .null, []),
  (12, .getfield 22, 15, 16, 2, 0, 238, .null, []),
  (15, .aload_n 0, 16, 0, 0, 0, 0, .null, []),
  (16, .getfield 10, 19, 16, 0, 0, 236, .null, []),
  (19, .iload_n 1, 20, 0, 0, 0, 0, .null, []),
  (20, .invokevirtual 67, 23, 55, 1, 11, 590, .retAddr 2, []),
  (23, .invokevirtual 55, 26, 65, 0, 12, 556, .retAddr 2, []),
  (26, .ireturn, 27, 0, 0, 0, 0, .int 0, [])]
def cd6 : List En := [(0, .aload_n 0, 1, 0, 0, 0, 0, .null, []),
  (1, .getfield 22, 4, 16, 2, 0, 238, .null, []),
  (4, .aload_n 0, 5, 0, 0, 0, 0, .null, []),
  (5, .getfield 10, 8, 16, 0, 0, 236, .null, []),
  (8, .invokevirtual 47, 11, 64, 0, 12, 547, .retAddr 2, []),
  (11, .aload_n 0, 12, 0, 0, 0, 0, .null, []),
  (12, .getfield 22, 15, 16, 2, 0, 238, .null, []),
  (15, .aload_n 0, 16, 0, 0, 0, 0, .null, []),
  (16, .getfield 29, 19, 16, 3, 0, 239, .null, []),
  (19, .aload_n 0, 20, 0, 0, 0, 0, .null, []),
  (20, .getfield 10, 23, 16, 0, 0, 236, .null, []),
  (23, .iload_n 1, 24, 0, 0, 0, 0, .null, []),
  (24, .invokevirtual 70, 27, 30, 5, 10, 416, .retAddr 3, []),
  (27, .invokevirtual 55, 30, 65, 0, 12, 556, .retAddr 2, []),
  (30, .ireturn, 31, 0, 0, 0, 0, .int 0, [])]
def cd7 : List En := [(0, .aload_n 0, 1, 0, 0, 0, 0, .null, []),
  (1, .getfield 22, 4, 16, 2, 0, 238, .null, []),
  (4, .aload_n 0, 5, 0, 0, 0, 0, .null, []),
  (5, .getfield 10, 8, 16, 0, 0, 236, .null, []),
  (8, .invokevirtual 47, 11, 64, 0, 12, 547, .retAddr 2, []),
  (11, .aload_n 0, 12, 0, 0, 0, 0, .null, []),
  (12, .getfield 22, 15, 16, 2, 0, 238, .null, []),
  (15, .aload_n 0, 16, 0, 0, 0, 0, .null, []),
  (16, .getfield 10, 19, 16, 0, 0, 236, .null, []),
  (19, .invokevirtual 74, 22, 56, 2, 11, 599, .retAddr 1, []),
  (22, .invokevirtual 55, 25, 65, 0, 12, 556, .retAddr 2, []),
  (25, .ireturn, 26, 0, 0, 0, 0, .int 0, [])]
def cd8 : List En := [(0, .aload_n 0, 1, 0, 0, 0, 0, .null, []),
  (1, .getfield 22, 4, 16, 2, 0, 238, .null, []),
  (4, .aload_n 0, 5, 0, 0, 0, 0, .null, []),
  (5, .getfield 10, 8, 16, 0, 0, 236, .null, []),
  (8, .invokevirtual 47, 11, 64, 0, 12, 547, .retAddr 2, []),
  (11, .aload_n 0, 12, 0, 0, 0, 0, .null, []),
  (12, .getfield 22, 15, 16, 2, 0, 238, .null, []),
  (15, .aload_n 0, 16, 0, 0, 0, 0, .null, []),
  (16, .getfield 10, 19, 16, 0, 0, 236, .null, []),
  (19, .iload_n 1, 20, 0, 0, 0, 0, .null, []),
  (20, .iload_n 2, 21, 0, 0, 0, 0, .null, []),
  (21, .invokevirtual 77, 24, 57, 1, 11, 608, .retAddr 3, []),
  (24, .invokevirtual 55, 27, 65, 0, 12, 556, .retAddr 2, []),
  (27, .ireturn, 28, 0, 0, 0, 0, .int 0, [])]
def cd9_0 : List En := [(0, .aload_n 0, 1, 0, 0, 0, 0, .null, []),
  (1, .getfield 10, 4, 16, 0, 0, 236, .null, []),
  (4, .iload_n 1, 5, 0, 0, 0, 0, .null, []),
  (5, .invokevirtual 81, 8, 39, 0, 11, 323, .retAddr 2, []),
  (8, .ifCond .ne 6, 11, 14, 0, 0, 0, .null, []),
  (11, .ldc 85, 13, 0, 0, 0, 289, .int ((-1000000001)), []),
  (13, .ireturn, 14, 0, 0, 0, 0, .int 0, []),
  (14, .iload_n 2, 15, 0, 0, 0, 0, .null, []),
  (15, .tableswitch 141 0 7 #[45, 55, 65, 75, 85, 102, 111, 121], 60, 156, 0, 0, 0, .null, [(nI 0, 60), (nI 1, 70), (nI 2, 80), (nI 3, 90), (nI 4, 100), (nI 5, 117), (nI 6, 126), (nI 7, 136)]),
  (60, .aload_n 0, 61, 0, 0, 0, 0, .null, []),
  (61, .getfield 10, 64, 16, 0, 0, 236, .null, []),
  (64, .getfield 86, 67, 11, 4, 1, 83, .null, []),
  (67, .iload_n 1, 68, 0, 0, 0, 0, .null, []),
  (68, .iaload, 69, 0, 0, 0, 0, .null, []),
  (69, .ireturn, 70, 0, 0, 0, 0, .int 0, []),
  (70, .aload_n 0, 71, 0, 0, 0, 0, .null, []),
  (71, .getfield 10, 74, 16, 0, 0, 236, .null, []),
  (74, .getfield 90, 77, 11, 5, 1, 86, .null, []),
  (77, .iload_n 1, 78, 0, 0, 0, 0, .null, []),
  (78, .iaload, 79, 0, 0, 0, 0, .null, []),
  (79, .ireturn, 80, 0, 0, 0, 0, .int 0, []),
  (80, .aload_n 0, 81, 0, 0, 0, 0, .null, []),
  (81, .getfield 10, 84, 16, 0, 0, 236, .null, []),
  (84, .getfield 93, 87, 11, 6, 1, 89, .null, []),
  (87, .iload_n 1, 88, 0, 0, 0, 0, .null, []),
  (88, .iaload, 89, 0, 0, 0, 0, .null, []),
  (89, .ireturn, 90, 0, 0, 0, 0, .int 0, []),
  (90, .aload_n 0, 91, 0, 0, 0, 0, .null, []),
  (91, .getfield 10, 94, 16, 0, 0, 236, .null, []),
  (94, .getfield 96, 97, 11, 7, 1, 92, .null, []),
  (97, .iload_n 1, 98, 0, 0, 0, 0, .null, []),
  (98, .iaload, 99, 0, 0, 0, 0, .null, []),
  (99, .ireturn, 100, 0, 0, 0, 0, .int 0, []),
  (100, .aload_n 0, 101, 0, 0, 0, 0, .null, []),
  (101, .getfield 10, 104, 16, 0, 0, 236, .null, []),
  (104, .iload_n 1, 105, 0, 0, 0, 0, .null, []),
  (105, .invokevirtual 99, 108, 42, 0, 11, 324, .retAddr 2, []),
  (108, .ifCond .eq 7, 111, 115, 0, 0, 0, .null, []),
  (111, .iconst 1, 112, 0, 0, 0, 0, .int (nI 1), []),
  (112, .goto 4, 115, 116, 0, 0, 0, .null, []),
  (115, .iconst 0, 116, 0, 0, 0, 0, .int (nI 0), []),
  (116, .ireturn, 117, 0, 0, 0, 0, .int 0, []),
  (117, .aload_n 0, 118, 0, 0, 0, 0, .null, []),
  (118, .getfield 10, 121, 16, 0, 0, 236, .null, []),
  (121, .iload_n 1, 122, 0, 0, 0, 0, .null, []),
  (122, .invokevirtual 102, 125, 45, 0, 11, 325, .retAddr 2, []),
  (125, .ireturn, 126, 0, 0, 0, 0, .int 0, []),
  (126, .aload_n 0, 127, 0, 0, 0, 0, .null, []),
  (127, .getfield 10, 130, 16, 0, 0, 236, .null, []),
  (130, .getfield 105, 133, 11, 8, 1, 94, .null, [])]
def cd9_1 : List En := [(133, .iload_n 1, 134, 0, 0, 0, 0, .null, []),
  (134, .iaload, 135, 0, 0, 0, 0, .null, []),
  (135, .ireturn, 136, 0, 0, 0, 0, .int 0, []),
  (136, .aload_n 0, 137, 0, 0, 0, 0, .null, []),
  (137, .getfield 10, 140, 16, 0, 0, 236, .null, []),
  (140, .getfield 108, 143, 11, 15, 1, 110, .null, []),
  (143, .iload_n 1, 144, 0, 0, 0, 0, .null, []),
  (144, .invokevirtual 112, 147, 90, 0, 15, 329, .retAddr 2, []),
  (147, .ifCond .eq 7, 150, 154, 0, 0, 0, .null, []),
  (150, .iconst 1, 151, 0, 0, 0, 0, .int (nI 1), []),
  (151, .goto 4, 154, 155, 0, 0, 0, .null, []),
  (154, .iconst 0, 155, 0, 0, 0, 0, .int (nI 0), []),
  (155, .ireturn, 156, 0, 0, 0, 0, .int 0, []),
  (156, .ldc 85, 158, 0, 0, 0, 289, .int ((-1000000001)), []),
  (158, .ireturn, 159, 0, 0, 0, 0, .int 0, [])]
def cd9 : List En := cd9_0 ++ (cd9_1)
def cd10 : List En := [(0, .aload_n 0, 1, 0, 0, 0, 0, .null, []),
  (1, .getfield 10, 4, 16, 0, 0, 236, .null, []),
  (4, .iload_n 1, 5, 0, 0, 0, 0, .null, []),
  (5, .invokevirtual 117, 8, 38, 0, 11, 340, .retAddr 2, []),
  (8, .ifCond .ne 6, 11, 14, 0, 0, 0, .null, []),
  (11, .ldc 85, 13, 0, 0, 0, 289, .int ((-1000000001)), []),
  (13, .ireturn, 14, 0, 0, 0, 0, .int 0, []),
  (14, .iload_n 2, 15, 0, 0, 0, 0, .null, []),
  (15, .tableswitch 105 0 4 #[33, 42, 52, 62, 75], 48, 120, 0, 0, 0, .null, [(nI 0, 48), (nI 1, 57), (nI 2, 67), (nI 3, 77), (nI 4, 90)]),
  (48, .aload_n 0, 49, 0, 0, 0, 0, .null, []),
  (49, .getfield 10, 52, 16, 0, 0, 236, .null, []),
  (52, .iload_n 1, 53, 0, 0, 0, 0, .null, []),
  (53, .invokevirtual 120, 56, 48, 2, 11, 344, .retAddr 2, []),
  (56, .ireturn, 57, 0, 0, 0, 0, .int 0, []),
  (57, .aload_n 0, 58, 0, 0, 0, 0, .null, []),
  (58, .getfield 10, 61, 16, 0, 0, 236, .null, []),
  (61, .getfield 123, 64, 11, 1, 1, 74, .null, []),
  (64, .iload_n 1, 65, 0, 0, 0, 0, .null, []),
  (65, .iaload, 66, 0, 0, 0, 0, .null, []),
  (66, .ireturn, 67, 0, 0, 0, 0, .int 0, []),
  (67, .aload_n 0, 68, 0, 0, 0, 0, .null, []),
  (68, .getfield 10, 71, 16, 0, 0, 236, .null, []),
  (71, .getfield 126, 74, 11, 2, 1, 76, .null, []),
  (74, .iload_n 1, 75, 0, 0, 0, 0, .null, []),
  (75, .iaload, 76, 0, 0, 0, 0, .null, []),
  (76, .ireturn, 77, 0, 0, 0, 0, .int 0, []),
  (77, .aload_n 0, 78, 0, 0, 0, 0, .null, []),
  (78, .getfield 36, 81, 16, 4, 0, 240, .null, []),
  (81, .aload_n 0, 82, 0, 0, 0, 0, .null, []),
  (82, .getfield 10, 85, 16, 0, 0, 236, .null, []),
  (85, .iload_n 1, 86, 0, 0, 0, 0, .null, []),
  (86, .invokevirtual 129, 89, 80, 2, 14, 352, .retAddr 3, []),
  (89, .ireturn, 90, 0, 0, 0, 0, .int 0, []),
  (90, .aload_n 0, 91, 0, 0, 0, 0, .null, []),
  (91, .getfield 10, 94, 16, 0, 0, 236, .null, []),
  (94, .invokevirtual 132, 97, 41, 0, 11, 369, .retAddr 1, []),
  (97, .ifCond .eq 21, 100, 118, 0, 0, 0, .null, []),
  (100, .aload_n 0, 101, 0, 0, 0, 0, .null, []),
  (101, .getfield 10, 104, 16, 0, 0, 236, .null, []),
  (104, .getfield 108, 107, 11, 15, 1, 110, .null, []),
  (107, .iload_n 1, 108, 0, 0, 0, 0, .null, []),
  (108, .invokevirtual 136, 111, 91, 0, 15, 373, .retAddr 2, []),
  (111, .ifCond .eq 7, 114, 118, 0, 0, 0, .null, []),
  (114, .iconst 1, 115, 0, 0, 0, 0, .int (nI 1), []),
  (115, .goto 4, 118, 119, 0, 0, 0, .null, []),
  (118, .iconst 0, 119, 0, 0, 0, 0, .int (nI 0), []),
  (119, .ireturn, 120, 0, 0, 0, 0, .int 0, []),
  (120, .ldc 85, 122, 0, 0, 0, 289, .int ((-1000000001)), []),
  (122, .ireturn, 123, 0, 0, 0, 0, .int 0, [])]
def cd11 : List En := [(0, .iload_n 1, 1, 0, 0, 0, 0, .null, []),
  (1, .iconst 0, 2, 0, 0, 0, 0, .int (nI 0), []),
  (2, .iconst 3, 3, 0, 0, 0, 0, .int (nI 3), []),
  (3, .invokestatic 139, 6, 24, 0, 0, 259, .retAddr 3, []),
  (6, .ifCond .ne 6, 9, 12, 0, 0, 0, .null, []),
  (9, .ldc 85, 11, 0, 0, 0, 289, .int ((-1000000001)), []),
  (11, .ireturn, 12, 0, 0, 0, 0, .int 0, []),
  (12, .aload_n 0, 13, 0, 0, 0, 0, .null, []),
  (13, .getfield 10, 16, 16, 0, 0, 236, .null, []),
  (16, .invokevirtual 132, 19, 41, 0, 11, 369, .retAddr 1, []),
  (19, .ifCond .ne 6, 22, 25, 0, 0, 0, .null, []),
  (22, .ldc 143, 24, 0, 0, 0, 381, .int ((-1000000004)), []),
  (24, .ireturn, 25, 0, 0, 0, 0, .int 0, []),
  (25, .iload_n 1, 26, 0, 0, 0, 0, .null, []),
  (26, .tableswitch 56 0 2 #[26, 37, 48], 52, 82, 0, 0, 0, .null, [(nI 0, 52), (nI 1, 63), (nI 2, 74)]),
  (52, .aload_n 0, 53, 0, 0, 0, 0, .null, []),
  (53, .getfield 10, 56, 16, 0, 0, 236, .null, []),
  (56, .getfield 108, 59, 11, 15, 1, 110, .null, []),
  (59, .getfield 144, 62, 15, 2, 1, 48, .int 0, []),
  (62, .ireturn, 63, 0, 0, 0, 0, .int 0, []),
  (63, .aload_n 0, 64, 0, 0, 0, 0, .null, []),
  (64, .getfield 10, 67, 16, 0, 0, 236, .null, []),
  (67, .getfield 108, 70, 11, 15, 1, 110, .null, []),
  (70, .getfield 148, 73, 15, 1, 1, 45, .int 0, []),
  (73, .ireturn, 74, 0, 0, 0, 0, .int 0, []),
  (74, .aload_n 0, 75, 0, 0, 0, 0, .null, []),
  (75, .getfield 10, 78, 16, 0, 0, 236, .null, []),
  (78, .getfield 151, 81, 11, 16, 1, 112, .int 0, []),
  (81, .ireturn, 82, 0, 0, 0, 0, .int 0, []),
  (82, .aload_n 0, 83, 0, 0, 0, 0, .null, []),
  (83, .getfield 10, 86, 16, 0, 0, 236, .null, []),
  (86, .getfield 108, 89, 11, 15, 1, 110, .null, []),
  (89, .getfield 154, 92, 15, 3, 1, 51, .int 0, []),
  (92, .ireturn, 93, 0, 0, 0, 0, .int 0, [])]
def cd12 : List En := [(0, .iload_n 1, 1, 0, 0, 0, 0, .null, []),
  (1, .ifCond .ge 6, 4, 7, 0, 0, 0, .null, []),
  (4, .ldc 85, 6, 0, 0, 0, 289, .int ((-1000000001)), []),
  (6, .ireturn, 7, 0, 0, 0, 0, .int 0, []),
  (7, .aload_n 0, 8, 0, 0, 0, 0, .null, []),
  (8, .getfield 10, 11, 16, 0, 0, 236, .null, []),
  (11, .invokevirtual 132, 14, 41, 0, 11, 369, .retAddr 1, []),
  (14, .ifCond .eq 17, 17, 31, 0, 0, 0, .null, []),
  (17, .iload_n 1, 18, 0, 0, 0, 0, .null, []),
  (18, .aload_n 0, 19, 0, 0, 0, 0, .null, []),
  (19, .getfield 10, 22, 16, 0, 0, 236, .null, []),
  (22, .getfield 108, 25, 11, 15, 1, 110, .null, []),
  (25, .getfield 148, 28, 15, 1, 1, 45, .int 0, []),
  (28, .if_icmp .le 6, 31, 34, 0, 0, 0, .null, []),
  (31, .ldc 143, 33, 0, 0, 0, 381, .int ((-1000000004)), []),
  (33, .ireturn, 34, 0, 0, 0, 0, .int 0, []),
  (34, .aload_n 0, 35, 0, 0, 0, 0, .null, []),
  (35, .getfield 10, 38, 16, 0, 0, 236, .null, []),
  (38, .getfield 108, 41, 11, 15, 1, 110, .null, []),
  (41, .iload_n 1, 42, 0, 0, 0, 0, .null, []),
  (42, .invokevirtual 157, 45, 88, 0, 15, 386, .retAddr 2, []),
  (45, .ireturn, 46, 0, 0, 0, 0, .int 0, [])]
def cd13 : List En := [(0, .aload_n 0, 1, 0, 0, 0, 0, .null, []),
  (1, .getfield 10, 4, 16, 0, 0, 236, .null, []),
  (4, .iload_n 1, 5, 0, 0, 0, 0, .null, []),
  (5, .invokevirtual 117, 8, 38, 0, 11, 340, .retAddr 2, []),
  (8, .ifCond .eq 14, 11, 22, 0, 0, 0, .null, []),
  (11, .aload_n 0, 12, 0, 0, 0, 0, .null, []),
  (12, .getfield 10, 15, 16, 0, 0, 236, .null, []),
  (15, .iload_n 2, 16, 0, 0, 0, 0, .null, []),
  (16, .invokevirtual 81, 19, 39, 0, 11, 323, .retAddr 2, []),
  (19, .ifCond .ne 6, 22, 25, 0, 0, 0, .null, []),
  (22, .ldc 85, 24, 0, 0, 0, 289, .int ((-1000000001)), []),
  (24, .ireturn, 25, 0, 0, 0, 0, .int 0, []),
  (25, .aload_n 0, 26, 0, 0, 0, 0, .null, []),
  (26, .getfield 10, 29, 16, 0, 0, 236, .null, []),
  (29, .iload_n 1, 30, 0, 0, 0, 0, .null, []),
  (30, .invokevirtual 160, 33, 49, 2, 11, 398, .retAddr 2, []),
  (33, .istore_n 3, 34, 0, 0, 0, 0, .null, []),
  (34, .aload_n 0, 35, 0, 0, 0, 0, .null, []),
  (35, .getfield 10, 38, 16, 0, 0, 236, .null, []),
  (38, .iload_n 2, 39, 0, 0, 0, 0, .null, []),
  (39, .iload_n 1, 40, 0, 0, 0, 0, .null, []),
  (40, .invokevirtual 163, 43, 46, 0, 11, 403, .retAddr 3, []),
  (43, .iconst (-1), 44, 0, 0, 0, 0, .int ((-1)), []),
  (44, .if_icmp .eq 8, 47, 52, 0, 0, 0, .null, []),
  (47, .iload_n 3, 48, 0, 0, 0, 0, .null, []),
  (48, .iconst 1, 49, 0, 0, 0, 0, .int (nI 1), []),
  (49, .if_icmp .ge 6, 52, 55, 0, 0, 0, .null, []),
  (52, .ldc 143, 54, 0, 0, 0, 381, .int ((-1000000004)), []),
  (54, .ireturn, 55, 0, 0, 0, 0, .int 0, []),
  (55, .aload_n 0, 56, 0, 0, 0, 0, .null, []),
  (56, .getfield 10, 59, 16, 0, 0, 236, .null, []),
  (59, .iload_n 2, 60, 0, 0, 0, 0, .null, []),
  (60, .invokevirtual 102, 63, 45, 0, 11, 325, .retAddr 2, []),
  (63, .i2f, 64, 0, 0, 0, 0, .null, []),
  (64, .iload_n 3, 65, 0, 0, 0, 0, .null, []),
  (65, .i2f, 66, 0, 0, 0, 0, .null, []),
  (66, .fdiv, 67, 0, 0, 0, 0, .null, []),
  (67, .invokestatic 166, 70, 28, 3, 0, 404, .retAddr 1, []),
  (70, .ireturn, 71, 0, 0, 0, 0, .int 0, [])]
def cd14 : List En := [(0, .iload_n 1, 1, 0, 0, 0, 0, .null, []),
  (1, .iconst 0, 2, 0, 0, 0, 0, .int (nI 0), []),
  (2, .iconst 3, 3, 0, 0, 0, 0, .int (nI 3), []),
  (3, .invokestatic 139, 6, 24, 0, 0, 259, .retAddr 3, []),
  (6, .ifCond .ne 6, 9, 12, 0, 0, 0, .null, []),
  (9, .ldc 85, 11, 0, 0, 0, 289, .int ((-1000000001)), []),
  (11, .ireturn, 12, 0, 0, 0, 0, .int 0, []),
  (12, .aload_n 0, 13, 0, 0, 0, 0, .null, []),
  (13, .getfield 10, 16, 16, 0, 0, 236, .null, []),
  (16, .invokevirtual 170, 19, 40, 0, 11, 509, .retAddr 1, []),
  (19, .ifCond .ne 6, 22, 25, 0, 0, 0, .null, []),
  (22, .ldc 173, 24, 0, 0, 0, 510, .int ((-1000000002)), []),
  (24, .ireturn, 25, 0, 0, 0, 0, .int 0, []),
  (25, .aload_n 0, 26, 0, 0, 0, 0, .null, []),
  (26, .getfield 36, 29, 16, 4, 0, 240, .null, []),
  (29, .aload_n 0, 30, 0, 0, 0, 0, .null, []),
  (30, .getfield 10, 33, 16, 0, 0, 236, .null, []),
  (33, .invokevirtual 174, 36, 82, 2, 14, 519, .retAddr 2, []),
  (36, .iload_n 1, 37, 0, 0, 0, 0, .null, []),
  (37, .tableswitch 75 0 2 #[27, 38, 49], 64, 112, 0, 0, 0, .null, [(nI 0, 64), (nI 1, 75), (nI 2, 86)]),
  (64, .aload_n 0, 65, 0, 0, 0, 0, .null, []),
  (65, .getfield 36, 68, 16, 4, 0, 240, .null, []),
  (68, .getfield 177, 71, 14, 1, 1, 194, .null, []),
  (71, .getfield 144, 74, 15, 2, 1, 48, .int 0, []),
  (74, .ireturn, 75, 0, 0, 0, 0, .int 0, []),
  (75, .aload_n 0, 76, 0, 0, 0, 0, .null, []),
  (76, .getfield 36, 79, 16, 4, 0, 240, .null, []),
  (79, .getfield 177, 82, 14, 1, 1, 194, .null, []),
  (82, .getfield 148, 85, 15, 1, 1, 45, .int 0, []),
  (85, .ireturn, 86, 0, 0, 0, 0, .int 0, []),
  (86, .aload_n 0, 87, 0, 0, 0, 0, .null, []),
  (87, .getfield 36, 90, 16, 4, 0, 240, .null, []),
  (90, .getfield 177, 93, 14, 1, 1, 194, .null, []),
  (93, .invokevirtual 180, 96, 89, 0, 15, 512, .retAddr 1, []),
  (96, .aload_n 0, 97, 0, 0, 0, 0, .null, []),
  (97, .getfield 10, 100, 16, 0, 0, 236, .null, []),
  (100, .getfield 183, 103, 11, 10, 1, 99, .int 0, []),
  (103, .if_icmp .ne 7, 106, 110, 0, 0, 0, .null, []),
  (106, .iconst 1, 107, 0, 0, 0, 0, .int (nI 1), []),
  (107, .goto 4, 110, 111, 0, 0, 0, .null, []),
  (110, .iconst 0, 111, 0, 0, 0, 0, .int (nI 0), []),
  (111, .ireturn, 112, 0, 0, 0, 0, .int 0, []),
  (112, .aload_n 0, 113, 0, 0, 0, 0, .null, []),
  (113, .getfield 36, 116, 16, 4, 0, 240, .null, []),
  (116, .getfield 177, 119, 14, 1, 1, 194, .null, []),
  (119, .invokevirtual 180, 122, 89, 0, 15, 512, .retAddr 1, []),
  (122, .ireturn, 123, 0, 0, 0, 0, .int 0, [])]
def cd15 : List En := [(0, .aload_n 0, 1, 0, 0, 0, 0, .null, []),
  (1, .getfield 36, 4, 16, 4, 0, 240, .null, []),
  (4, .aload_n 0, 5, 0, 0, 0, 0, .null, []),
  (5, .getfield 10, 8, 16, 0, 0, 236, .null, []),
  (8, .aload_n 0, 9, 0, 0, 0, 0, .null, []),
  (9, .getfield 10, 12, 16, 0, 0, 236, .null, []),
  (12, .getfield 183, 15, 11, 10, 1, 99, .int 0, []),
  (15, .invokevirtual 129, 18, 80, 2, 14, 352, .retAddr 3, []),
  (18, .istore_n 1, 19, 0, 0, 0, 0, .null, []),
  (19, .aload_n 0, 20, 0, 0, 0, 0, .null, []),
  (20, .getfield 10, 23, 16, 0, 0, 236, .null, []),
  (23, .invokevirtual 132, 26, 41, 0, 11, 369, .retAddr 1, []),
  (26, .ifCond .eq 9, 29, 35, 0, 0, 0, .null, []),
  (29, .iload_n 1, 30, 0, 0, 0, 0, .null, []),
  (30, .ldc 143, 32, 0, 0, 0, 381, .int ((-1000000004)), []),
  (32, .if_icmp .ne 6, 35, 38, 0, 0, 0, .null, []),
  (35, .ldc 143, 37, 0, 0, 0, 381, .int ((-1000000004)), []),
  (37, .ireturn, 38, 0, 0, 0, 0, .int 0, []),
  (38, .aload_n 0, 39, 0, 0, 0, 0, .null, []),
  (39, .getfield 10, 42, 16, 0, 0, 236, .null, []),
  (42, .getfield 108, 45, 11, 15, 1, 110, .null, []),
  (45, .getfield 144, 48, 15, 2, 1, 48, .int 0, []),
  (48, .iload_n 1, 49, 0, 0, 0, 0, .null, []),
  (49, .isub, 50, 0, 0, 0, 0, .null, []),
  (50, .ireturn, 51, 0, 0, 0, 0, .int 0, [])]
def cd16 : List En := [(0, .iload_n 1, 1, 0, 0, 0, 0, .null, []),
  (1, .iconst 0, 2, 0, 0, 0, 0, .int (nI 0), []),
  (2, .iconst 2, 3, 0, 0, 0, 0, .int (nI 2), []),
  (3, .invokestatic 139, 6, 24, 0, 0, 259, .retAddr 3, []),
  (6, .ifCond .ne 6, 9, 12, 0, 0, 0, .null, []),
  (9, .ldc 85, 11, 0, 0, 0, 289, .int ((-1000000001)), []),
  (11, .ireturn, 12, 0, 0, 0, 0, .int 0, []),
  (12, .aload_n 0, 13, 0, 0, 0, 0, .null, []),
  (13, .getfield 10, 16, 16, 0, 0, 236, .null, []),
  (16, .invokevirtual 170, 19, 40, 0, 11, 509, .retAddr 1, []),
  (19, .ifCond .ne 6, 22, 25, 0, 0, 0, .null, []),
  (22, .ldc 173, 24, 0, 0, 0, 510, .int ((-1000000002)), []),
  (24, .ireturn, 25, 0, 0, 0, 0, .int 0, []),
  (25, .aload_n 0, 26, 0, 0, 0, 0, .null, []),
  (26, .getfield 10, 29, 16, 0, 0, 236, .null, []),
  (29, .aload_n 0, 30, 0, 0, 0, 0, .null, []),
  (30, .getfield 16, 33, 16, 1, 0, 237, .null, []),
  (33, .invokestatic 186, 36, 37, 0, 0, 415, .retAddr 2, []),
  (36, .aload_n 0, 37, 0, 0, 0, 0, .null, []),
  (37, .getfield 29, 40, 16, 3, 0, 239, .null, []),
  (40, .aload_n 0, 41, 0, 0, 0, 0, .null, []),
  (41, .getfield 16, 44, 16, 1, 0, 237, .null, []),
  (44, .invokevirtual 190, 47, 33, 4, 10, 511, .retAddr 2, []),
  (47, .istore_n 2, 48, 0, 0, 0, 0, .null, []),
  (48, .iload_n 1, 49, 0, 0, 0, 0, .null, []),
  (49, .lookupswitch 40 #[(0, 27), (1, 29)], 76, 89, 0, 0, 0, .null, [(nI 0, 76), (nI 1, 78)]),
  (76, .iload_n 2, 77, 0, 0, 0, 0, .null, []),
  (77, .ireturn, 78, 0, 0, 0, 0, .int 0, []),
  (78, .aload_n 0, 79, 0, 0, 0, 0, .null, []),
  (79, .getfield 29, 82, 16, 3, 0, 239, .null, []),
  (82, .getfield 194, 85, 10, 0, 1, 174, .null, []),
  (85, .getfield 144, 88, 15, 2, 1, 48, .int 0, []),
  (88, .ireturn, 89, 0, 0, 0, 0, .int 0, []),
  (89, .aload_n 0, 90, 0, 0, 0, 0, .null, []),
  (90, .getfield 29, 93, 16, 3, 0, 239, .null, []),
  (93, .getfield 194, 96, 10, 0, 1, 174, .null, []),
  (96, .invokevirtual 180, 99, 89, 0, 15, 512, .retAddr 1, []),
  (99, .ireturn, 100, 0, 0, 0, 0, .int 0, [])]
def cd17 : List En := [(0, .iload_n 2, 1, 0, 0, 0, 0, .null, []),
  (1, .iconst 0, 2, 0, 0, 0, 0, .int (nI 0), []),
  (2, .iconst 3, 3, 0, 0, 0, 0, .int (nI 3), []),
  (3, .invokestatic 139, 6, 24, 0, 0, 259, .retAddr 3, []),
  (6, .ifCond .ne 6, 9, 12, 0, 0, 0, .null, []),
  (9, .ldc 85, 11, 0, 0, 0, 289, .int ((-1000000001)), []),
  (11, .ireturn, 12, 0, 0, 0, 0, .int 0, []),
  (12, .aload_n 0, 13, 0, 0, 0, 0, .null, []),
  (13, .getfield 10, 16, 16, 0, 0, 236, .null, []),
  (16, .aload_n 0, 17, 0, 0, 0, 0, .null, []),
  (17, .getfield 16, 20, 16, 1, 0, 237, .null, []),
  (20, .invokestatic 186, 23, 37, 0, 0, 415, .retAddr 2, []),
  (23, .aload_n 0, 24, 0, 0, 0, 0, .null, []),
  (24, .getfield 29, 27, 16, 3, 0, 239, .null, []),
  (27, .aload_n 0, 28, 0, 0, 0, 0, .null, []),
  (28, .getfield 16, 31, 16, 1, 0, 237, .null, []),
  (31, .iload_n 1, 32, 0, 0, 0, 0, .null, []),
  (32, .invokevirtual 70, 35, 30, 5, 10, 416, .retAddr 3, []),
  (35, .istore_n 3, 36, 0, 0, 0, 0, .null, []),
  (36, .iload_n 3, 37, 0, 0, 0, 0, .null, []),
  (37, .invokestatic 195, 40, 25, 0, 0, 502, .retAddr 1, []),
  (40, .ifCond .eq 5, 43, 45, 0, 0, 0, .null, []),
  (43, .iload_n 3, 44, 0, 0, 0, 0, .null, []),
  (44, .ireturn, 45, 0, 0, 0, 0, .int 0, []),
  (45, .iload_n 2, 46, 0, 0, 0, 0, .null, []),
  (46, .tableswitch 74 0 2 #[26, 28, 48], 72, 120, 0, 0, 0, .null, [(nI 0, 72), (nI 1, 74), (nI 2, 94)]),
  (72, .iload_n 3, 73, 0, 0, 0, 0, .null, []),
  (73, .ireturn, 74, 0, 0, 0, 0, .int 0, []),
  (74, .aload_n 0, 75, 0, 0, 0, 0, .null, []),
  (75, .getfield 16, 78, 16, 1, 0, 237, .null, []),
  (78, .getfield 198, 81, 11, 14, 1, 108, .null, []),
  (81, .iconst 1, 82, 0, 0, 0, 0, .int (nI 1), []),
  (82, .iaload, 83, 0, 0, 0, 0, .null, []),
  (83, .aload_n 0, 84, 0, 0, 0, 0, .null, []),
  (84, .getfield 10, 87, 16, 0, 0, 236, .null, []),
  (87, .getfield 198, 90, 11, 14, 1, 108, .null, []),
  (90, .iconst 1, 91, 0, 0, 0, 0, .int (nI 1), []),
  (91, .iaload, 92, 0, 0, 0, 0, .null, []),
  (92, .isub, 93, 0, 0, 0, 0, .null, []),
  (93, .ireturn, 94, 0, 0, 0, 0, .int 0, []),
  (94, .aload_n 0, 95, 0, 0, 0, 0, .null, []),
  (95, .getfield 16, 98, 16, 1, 0, 237, .null, []),
  (98, .invokevirtual 132, 101, 41, 0, 11, 369, .retAddr 1, []),
  (101, .ifCond .eq 16, 104, 117, 0, 0, 0, .null, []),
  (104, .aload_n 0, 105, 0, 0, 0, 0, .null, []),
  (105, .getfield 16, 108, 16, 1, 0, 237, .null, []),
  (108, .getfield 108, 111, 11, 15, 1, 110, .null, []),
  (111, .getfield 144, 114, 15, 2, 1, 48, .int 0, []),
  (114, .goto 5, 117, 119, 0, 0, 0, .null, []),
  (117, .ldc 143, 119, 0, 0, 0, 381, .int ((-1000000004)), []),
  (119, .ireturn, 120, 0, 0, 0, 0, .int 0, []),
  (120, .aload_n 0, 121, 0, 0, 0, 0, .null, []),
  (121, .getfield 16, 124, 16, 1, 0, 237, .null, []),
  (124, .invokevirtual 201, 127, 50, 2, 11, 278, .retAddr 1, []),
  (127, .ireturn, 128, 0, 0, 0, 0, .int 0, [])]
def cd18_0 : List En := [(0, .iload_n 1, 1, 0, 0, 0, 0, .null, []),
  (1, .bipush 20, 3, 0, 0, 0, 0, .int (nI 20), []),
  (3, .bipush 26, 5, 0, 0, 0, 0, .int (nI 26), []),
  (5, .invokestatic 139, 8, 24, 0, 0, 259, .retAddr 3, []),
  (8, .ifCond .eq 15, 11, 23, 0, 0, 0, .null, []),
  (11, .aload_n 0, 12, 0, 0, 0, 0, .null, []),
  (12, .getfield 10, 15, 16, 0, 0, 236, .null, []),
  (15, .iload_n 1, 16, 0, 0, 0, 0, .null, []),
  (16, .bipush 20, 18, 0, 0, 0, 0, .int (nI 20), []),
  (18, .isub, 19, 0, 0, 0, 0, .null, []),
  (19, .invokevirtual 204, 22, 43, 0, 11, 262, .retAddr 2, []),
  (22, .ireturn, 23, 0, 0, 0, 0, .int 0, []),
  (23, .iload_n 1, 24, 0, 0, 0, 0, .null, []),
  (24, .tableswitch 212 0 13 #[72, 80, 88, 96, 104, 134, 144, 154, 164, 172, 180, 188, 196, 204], 96, 236, 0, 0, 0, .null, [(nI 0, 96), (nI 1, 104), (nI 2, 112), (nI 3, 120), (nI 4, 128), (nI 5, 158), (nI 6, 168), (nI 7, 178), (nI 8, 188), (nI 9, 196), (nI 10, 204), (nI 11, 212), (nI 12, 220), (nI 13, 228)]),
  (96, .aload_n 0, 97, 0, 0, 0, 0, .null, []),
  (97, .getfield 10, 100, 16, 0, 0, 236, .null, []),
  (100, .getfield 207, 103, 11, 0, 1, 72, .int 0, []),
  (103, .ireturn, 104, 0, 0, 0, 0, .int 0, []),
  (104, .aload_n 0, 105, 0, 0, 0, 0, .null, []),
  (105, .getfield 10, 108, 16, 0, 0, 236, .null, []),
  (108, .getfield 210, 111, 11, 3, 1, 80, .int 0, []),
  (111, .ireturn, 112, 0, 0, 0, 0, .int 0, []),
  (112, .aload_n 0, 113, 0, 0, 0, 0, .null, []),
  (113, .getfield 10, 116, 16, 0, 0, 236, .null, []),
  (116, .invokevirtual 213, 119, 47, 2, 11, 266, .retAddr 1, []),
  (119, .ireturn, 120, 0, 0, 0, 0, .int 0, []),
  (120, .aload_n 0, 121, 0, 0, 0, 0, .null, []),
  (121, .getfield 10, 124, 16, 0, 0, 236, .null, []),
  (124, .getfield 216, 127, 11, 13, 1, 105, .int 0, []),
  (127, .ireturn, 128, 0, 0, 0, 0, .int 0, []),
  (128, .aload_n 0, 129, 0, 0, 0, 0, .null, []),
  (129, .getfield 10, 132, 16, 0, 0, 236, .null, []),
  (132, .getfield 198, 135, 11, 14, 1, 108, .null, []),
  (135, .iconst 0, 136, 0, 0, 0, 0, .int (nI 0), []),
  (136, .iaload, 137, 0, 0, 0, 0, .null, []),
  (137, .aload_n 0, 138, 0, 0, 0, 0, .null, []),
  (138, .getfield 10, 141, 16, 0, 0, 236, .null, []),
  (141, .getfield 198, 144, 11, 14, 1, 108, .null, []),
  (144, .iconst 1, 145, 0, 0, 0, 0, .int (nI 1), []),
  (145, .iaload, 146, 0, 0, 0, 0, .null, []),
  (146, .iadd, 147, 0, 0, 0, 0, .null, []),
  (147, .aload_n 0, 148, 0, 0, 0, 0, .null, []),
  (148, .getfield 10, 151, 16, 0, 0, 236, .null, []),
  (151, .getfield 198, 154, 11, 14, 1, 108, .null, []),
  (154, .iconst 2, 155, 0, 0, 0, 0, .int (nI 2), []),
  (155, .iaload, 156, 0, 0, 0, 0, .null, []),
  (156, .iadd, 157, 0, 0, 0, 0, .null, []),
  (157, .ireturn, 158, 0, 0, 0, 0, .int 0, []),
  (158, .aload_n 0, 159, 0, 0, 0, 0, .null, []),
  (159, .getfield 10, 162, 16, 0, 0, 236, .null, [])]
def cd18_1 : List En := [(162, .getfield 198, 165, 11, 14, 1, 108, .null, []),
  (165, .iconst 0, 166, 0, 0, 0, 0, .int (nI 0), []),
  (166, .iaload, 167, 0, 0, 0, 0, .null, []),
  (167, .ireturn, 168, 0, 0, 0, 0, .int 0, []),
  (168, .aload_n 0, 169, 0, 0, 0, 0, .null, []),
  (169, .getfield 10, 172, 16, 0, 0, 236, .null, []),
  (172, .getfield 198, 175, 11, 14, 1, 108, .null, []),
  (175, .iconst 1, 176, 0, 0, 0, 0, .int (nI 1), []),
  (176, .iaload, 177, 0, 0, 0, 0, .null, []),
  (177, .ireturn, 178, 0, 0, 0, 0, .int 0, []),
  (178, .aload_n 0, 179, 0, 0, 0, 0, .null, []),
  (179, .getfield 10, 182, 16, 0, 0, 236, .null, []),
  (182, .getfield 198, 185, 11, 14, 1, 108, .null, []),
  (185, .iconst 2, 186, 0, 0, 0, 0, .int (nI 2), []),
  (186, .iaload, 187, 0, 0, 0, 0, .null, []),
  (187, .ireturn, 188, 0, 0, 0, 0, .int 0, []),
  (188, .aload_n 0, 189, 0, 0, 0, 0, .null, []),
  (189, .getfield 10, 192, 16, 0, 0, 236, .null, []),
  (192, .invokevirtual 201, 195, 50, 2, 11, 278, .retAddr 1, []),
  (195, .ireturn, 196, 0, 0, 0, 0, .int 0, []),
  (196, .aload_n 0, 197, 0, 0, 0, 0, .null, []),
  (197, .getfield 10, 200, 16, 0, 0, 236, .null, []),
  (200, .invokevirtual 219, 203, 51, 2, 11, 282, .retAddr 1, []),
  (203, .ireturn, 204, 0, 0, 0, 0, .int 0, []),
  (204, .aload_n 0, 205, 0, 0, 0, 0, .null, []),
  (205, .getfield 10, 208, 16, 0, 0, 236, .null, []),
  (208, .getfield 183, 211, 11, 10, 1, 99, .int 0, []),
  (211, .ireturn, 212, 0, 0, 0, 0, .int 0, []),
  (212, .aload_n 0, 213, 0, 0, 0, 0, .null, []),
  (213, .getfield 10, 216, 16, 0, 0, 236, .null, []),
  (216, .getfield 222, 219, 11, 11, 1, 101, .int 0, []),
  (219, .ireturn, 220, 0, 0, 0, 0, .int 0, []),
  (220, .aload_n 0, 221, 0, 0, 0, 0, .null, []),
  (221, .getfield 22, 224, 16, 2, 0, 238, .null, []),
  (224, .getfield 225, 227, 12, 1, 1, 159, .int 0, []),
  (227, .ireturn, 228, 0, 0, 0, 0, .int 0, []),
  (228, .aload_n 0, 229, 0, 0, 0, 0, .null, []),
  (229, .getfield 43, 232, 16, 5, 0, 241, .null, []),
  (232, .getfield 228, 235, 13, 1, 1, 208, .int 0, []),
  (235, .ireturn, 236, 0, 0, 0, 0, .int 0, []),
  (236, .ldc 85, 238, 0, 0, 0, 289, .int ((-1000000001)), []),
  (238, .ireturn, 239, 0, 0, 0, 0, .int 0, [])]
def cd18 : List En := cd18_0 ++ (cd18_1)
def cd19 : List En := [(0, .aload_n 0, 1, 0, 0, 0, 0, .null, []),
  (1, .getfield 22, 4, 16, 2, 0, 238, .null, []),
  (4, .aload_n 0, 5, 0, 0, 0, 0, .null, []),
  (5, .getfield 10, 8, 16, 0, 0, 236, .null, []),
  (8, .invokevirtual 229, 11, 67, 0, 12, 294, .retAddr 2, []),
  (11, .ireturn, 12, 0, 0, 0, 0, .int 0, [])]
def cd20 : List En := [(0, .aload_n 0, 1, 0, 0, 0, 0, .null, []),
  (1, .getfield 43, 4, 16, 5, 0, 241, .null, []),
  (4, .iload_n 1, 5, 0, 0, 0, 0, .null, []),
  (5, .invokevirtual 232, 8, 69, 0, 13, 638, .retAddr 2, []),
  (8, .ireturn, 9, 0, 0, 0, 0, .int 0, [])]
def cd21 : List En := [(0, .aload_n 0, 1, 0, 0, 0, 0, .null, []),
  (1, .getfield 43, 4, 16, 5, 0, 241, .null, []),
  (4, .invokevirtual 235, 7, 70, 1, 13, 630, .retAddr 1, []),
  (7, .ireturn, 8, 0, 0, 0, 0, .int 0, [])]
def cd22 : List En := [(0, .iload_n 1, 1, 0, 0, 0, 0, .null, []),
  (1, .iconst 0, 2, 0, 0, 0, 0, .int (nI 0), []),
  (2, .iconst 2, 3, 0, 0, 0, 0, .int (nI 2), []),
  (3, .invokestatic 139, 6, 24, 0, 0, 259, .retAddr 3, []),
  (6, .ifCond .ne 6, 9, 12, 0, 0, 0, .null, []),
  (9, .ldc 85, 11, 0, 0, 0, 289, .int ((-1000000001)), []),
  (11, .ireturn, 12, 0, 0, 0, 0, .int 0, []),
  (12, .aload_n 0, 13, 0, 0, 0, 0, .null, []),
  (13, .getfield 10, 16, 16, 0, 0, 236, .null, []),
  (16, .aload_n 0, 17, 0, 0, 0, 0, .null, []),
  (17, .getfield 16, 20, 16, 1, 0, 237, .null, []),
  (20, .invokestatic 186, 23, 37, 0, 0, 415, .retAddr 2, []),
  (23, .aload_n 0, 24, 0, 0, 0, 0, .null, []),
  (24, .getfield 43, 27, 16, 5, 0, 241, .null, []),
  (27, .aload_n 0, 28, 0, 0, 0, 0, .null, []),
  (28, .getfield 16, 31, 16, 1, 0, 237, .null, []),
  (31, .aload_n 0, 32, 0, 0, 0, 0, .null, []),
  (32, .getfield 29, 35, 16, 3, 0, 239, .null, []),
  (35, .invokevirtual 238, 38, 71, 3, 13, 655, .retAddr 3, []),
  (38, .pop, 39, 0, 0, 0, 0, .null, []),
  (39, .aload_n 0, 40, 0, 0, 0, 0, .null, []),
  (40, .getfield 43, 43, 16, 5, 0, 241, .null, []),
  (43, .getfield 242, 46, 13, 5, 1, 213, .int 0, []),
  (46, .ifCond .ne 6, 49, 52, 0, 0, 0, .null, []),
  (49, .ldc 143, 51, 0, 0, 0, 381, .int ((-1000000004)), []),
  (51, .ireturn, 52, 0, 0, 0, 0, .int 0, []),
  (52, .iload_n 1, 53, 0, 0, 0, 0, .null, []),
  (53, .lookupswitch 43 #[(0, 27), (1, 35)], 80, 96, 0, 0, 0, .null, [(nI 0, 80), (nI 1, 88)]),
  (80, .aload_n 0, 81, 0, 0, 0, 0, .null, []),
  (81, .getfield 43, 84, 16, 5, 0, 241, .null, []),
  (84, .getfield 245, 87, 13, 6, 1, 215, .int 0, []),
  (87, .ireturn, 88, 0, 0, 0, 0, .int 0, []),
  (88, .aload_n 0, 89, 0, 0, 0, 0, .null, []),
  (89, .getfield 43, 92, 16, 5, 0, 241, .null, []),
  (92, .getfield 242, 95, 13, 5, 1, 213, .int 0, []),
  (95, .ireturn, 96, 0, 0, 0, 0, .int 0, []),
  (96, .aload_n 0, 97, 0, 0, 0, 0, .null, []),
  (97, .getfield 43, 100, 16, 5, 0, 241, .null, []),
  (100, .getfield 248, 103, 13, 7, 1, 217, .int 0, []),
  (103, .ireturn, 104, 0, 0, 0, 0, .int 0, [])]
def cd23 : List En := [(0, .aload_n 0, 1, 0, 0, 0, 0, .null, []),
  (1, .getfield 10, 4, 16, 0, 0, 236, .null, []),
  (4, .aload_n 0, 5, 0, 0, 0, 0, .null, []),
  (5, .getfield 16, 8, 16, 1, 0, 237, .null, []),
  (8, .invokestatic 186, 11, 37, 0, 0, 415, .retAddr 2, []),
  (11, .aload_n 0, 12, 0, 0, 0, 0, .null, []),
  (12, .getfield 43, 15, 16, 5, 0, 241, .null, []),
  (15, .aload_n 0, 16, 0, 0, 0, 0, .null, []),
  (16, .getfield 16, 19, 16, 1, 0, 237, .null, []),
  (19, .aload_n 0, 20, 0, 0, 0, 0, .null, []),
  (20, .getfield 29, 23, 16, 3, 0, 239, .null, []),
  (23, .invokevirtual 238, 26, 71, 3, 13, 655, .retAddr 3, []),
  (26, .istore_n 1, 27, 0, 0, 0, 0, .null, []),
  (27, .aload_n 0, 28, 0, 0, 0, 0, .null, []),
  (28, .getfield 43, 31, 16, 5, 0, 241, .null, []),
  (31, .getfield 242, 34, 13, 5, 1, 213, .int 0, []),
  (34, .ifCond .eq 6, 37, 40, 0, 0, 0, .null, []),
  (37, .ldc 173, 39, 0, 0, 0, 510, .int ((-1000000002)), []),
  (39, .ireturn, 40, 0, 0, 0, 0, .int 0, []),
  (40, .aload_n 0, 41, 0, 0, 0, 0, .null, []),
  (41, .getfield 22, 44, 16, 2, 0, 238, .null, []),
  (44, .aload_n 0, 45, 0, 0, 0, 0, .null, []),
  (45, .getfield 10, 48, 16, 0, 0, 236, .null, []),
  (48, .invokevirtual 47, 51, 64, 0, 12, 547, .retAddr 2, []),
  (51, .aload_n 0, 52, 0, 0, 0, 0, .null, []),
  (52, .getfield 16, 55, 16, 1, 0, 237, .null, []),
  (55, .aload_n 0, 56, 0, 0, 0, 0, .null, []),
  (56, .getfield 10, 59, 16, 0, 0, 236, .null, []),
  (59, .invokestatic 186, 62, 37, 0, 0, 415, .retAddr 2, []),
  (62, .aload_n 0, 63, 0, 0, 0, 0, .null, []),
  (63, .getfield 22, 66, 16, 2, 0, 238, .null, []),
  (66, .iload_n 1, 67, 0, 0, 0, 0, .null, []),
  (67, .invokevirtual 55, 70, 65, 0, 12, 556, .retAddr 2, []),
  (70, .ireturn, 71, 0, 0, 0, 0, .int 0, [])]
def cd24 : List En := [(0, .iload_n 0, 1, 0, 0, 0, 0, .null, []),
  (1, .iload_n 1, 2, 0, 0, 0, 0, .null, []),
  (2, .if_icmp .lt 12, 5, 14, 0, 0, 0, .null, []),
  (5, .iload_n 0, 6, 0, 0, 0, 0, .null, []),
  (6, .iload_n 2, 7, 0, 0, 0, 0, .null, []),
  (7, .if_icmp .gt 7, 10, 14, 0, 0, 0, .null, []),
  (10, .iconst 1, 11, 0, 0, 0, 0, .int (nI 1), []),
  (11, .goto 4, 14, 15, 0, 0, 0, .null, []),
  (14, .iconst 0, 15, 0, 0, 0, 0, .int (nI 0), []),
  (15, .ireturn, 16, 0, 0, 0, 0, .int 1, [])]
def cd25 : List En := [(0, .iload_n 0, 1, 0, 0, 0, 0, .null, []),
  (1, .ldc 85, 3, 0, 0, 0, 289, .int ((-1000000001)), []),
  (3, .if_icmp .gt 7, 6, 10, 0, 0, 0, .null, []),
  (6, .iconst 1, 7, 0, 0, 0, 0, .int (nI 1), []),
  (7, .goto 4, 10, 11, 0, 0, 0, .null, []),
  (10, .iconst 0, 11, 0, 0, 0, 0, .int (nI 0), []),
  (11, .ireturn, 12, 0, 0, 0, 0, .int 1, [])]
def cd26 : List En := [(0, .iload_n 0, 1, 0, 0, 0, 0, .null, []),
  (1, .iload_n 1, 2, 0, 0, 0, 0, .null, []),
  (2, .ishr, 3, 0, 0, 0, 0, .null, []),
  (3, .iconst 1, 4, 0, 0, 0, 0, .int (nI 1), []),
  (4, .iand, 5, 0, 0, 0, 0, .null, []),
  (5, .iconst 1, 6, 0, 0, 0, 0, .int (nI 1), []),
  (6, .if_icmp .ne 7, 9, 13, 0, 0, 0, .null, []),
  (9, .iconst 1, 10, 0, 0, 0, 0, .int (nI 1), []),
  (10, .goto 4, 13, 14, 0, 0, 0, .null, []),
  (13, .iconst 0, 14, 0, 0, 0, 0, .int (nI 0), []),
  (14, .ireturn, 15, 0, 0, 0, 0, .int 1, [])]
def cd27 : List En := [(0, .iconst 0, 1, 0, 0, 0, 0, .int (nI 0), []),
  (1, .istore_n 2, 2, 0, 0, 0, 0, .null, []),
  (2, .iload_n 2, 3, 0, 0, 0, 0, .null, []),
  (3, .aload_n 0, 4, 0, 0, 0, 0, .null, []),
  (4, .arraylength, 5, 0, 0, 0, 0, .null, []),
  (5, .if_icmp .ge 21, 8, 26, 0, 0, 0, .null, []),
  (8, .iload_n 2, 9, 0, 0, 0, 0, .null, []),
  (9, .aload_n 1, 10, 0, 0, 0, 0, .null, []),
  (10, .arraylength, 11, 0, 0, 0, 0, .null, []),
  (11, .if_icmp .ge 15, 14, 26, 0, 0, 0, .null, []),
  (14, .aload_n 1, 15, 0, 0, 0, 0, .null, []),
  (15, .iload_n 2, 16, 0, 0, 0, 0, .null, []),
  (16, .aload_n 0, 17, 0, 0, 0, 0, .null, []),
  (17, .iload_n 2, 18, 0, 0, 0, 0, .null, []),
  (18, .iaload, 19, 0, 0, 0, 0, .null, []),
  (19, .iastore, 20, 0, 0, 0, 0, .null, []),
  (20, .iinc 2 1, 23, 0, 0, 0, 0, .null, []),
  (23, .goto (-21), 26, 2, 0, 0, 0, .null, []),
  (26, .return_, 27, 0, 0, 0, 0, .null, [])]
def cd28 : List En := [(0, .fload_n 0, 1, 0, 0, 0, 0, .null, []),
  (1, .fstore_n 1, 2, 0, 0, 0, 0, .null, []),
  (2, .bipush 127, 4, 0, 0, 0, 0, .int (nI 127), []),
  (4, .istore_n 2, 5, 0, 0, 0, 0, .null, []),
  (5, .fload_n 1, 6, 0, 0, 0, 0, .null, []),
  (6, .fconst 1, 7, 0, 0, 0, 0, .float 1065353216, []),
  (7, .fcmp .g, 8, 0, 0, 0, 0, .null, []),
  (8, .ifCond .ge 18, 11, 26, 0, 0, 0, .null, []),
  (11, .iload_n 2, 12, 0, 0, 0, 0, .null, []),
  (12, .iconst 1, 13, 0, 0, 0, 0, .int (nI 1), []),
  (13, .if_icmp .le 13, 16, 26, 0, 0, 0, .null, []),
  (16, .fload_n 1, 17, 0, 0, 0, 0, .null, []),
  (17, .fconst 2, 18, 0, 0, 0, 0, .float 1073741824, []),
  (18, .fmul, 19, 0, 0, 0, 0, .null, []),
  (19, .fstore_n 1, 20, 0, 0, 0, 0, .null, []),
  (20, .iinc 2 (-1), 23, 0, 0, 0, 0, .null, []),
  (23, .goto (-18), 26, 5, 0, 0, 0, .null, []),
  (26, .fload_n 1, 27, 0, 0, 0, 0, .null, []),
  (27, .fconst 1, 28, 0, 0, 0, 0, .float 1065353216, []),
  (28, .fsub, 29, 0, 0, 0, 0, .null, []),
  (29, .ldc 251, 31, 0, 0, 0, 407, .float 1258291200, []),
  (31, .fmul, 32, 0, 0, 0, 0, .null, []),
  (32, .f2i, 33, 0, 0, 0, 0, .null, []),
  (33, .istore_n 3, 34, 0, 0, 0, 0, .null, []),
  (34, .iload_n 2, 35, 0, 0, 0, 0, .null, []),
  (35, .bipush 23, 37, 0, 0, 0, 0, .int (nI 23), []),
  (37, .ishl, 38, 0, 0, 0, 0, .null, []),
  (38, .iload_n 3, 39, 0, 0, 0, 0, .null, []),
  (39, .ior, 40, 0, 0, 0, 0, .null, []),
  (40, .ireturn, 41, 0, 0, 0, 0, .int 0, [])]
def cd29 : List En := [(0, .aload_n 0, 1, 0, 0, 0, 0, .null, []),
  (1, .invokespecial 3, 4, 900, 0, 0, 170, .null, []),
  (4, .aload_n 0, 5, 0, 0, 0, 0, .null, []),
  (5, .new 9, 8, 15, 5, 0, 171, .null, []),
  (8, .dup, 9, 0, 0, 0, 0, .null, []),
  (9, .invokespecial 11, 12, 85, 0, 15, 172, .retAddr 1, []),
  (12, .putfield 12, 15, 10, 0, 0, 173, .null, []),
  (15, .aload_n 0, 16, 0, 0, 0, 0, .null, []),
  (16, .bipush 16, 18, 0, 0, 0, 0, .int (nI 16), []),
  (18, .newarray .int, 20, 0, 0, 0, 0, .null, []),
  (20, .putfield 18, 23, 10, 1, 0, 175, .null, []),
  (23, .aload_n 0, 24, 0, 0, 0, 0, .null, []),
  (24, .bipush 16, 26, 0, 0, 0, 0, .int (nI 16), []),
  (26, .newarray .int, 28, 0, 0, 0, 0, .null, []),
  (28, .putfield 22, 31, 10, 2, 0, 176, .null, []),
  (31, .return_, 32, 0, 0, 0, 0, .null, [])]
def cd30_0 : List En := [(0, .iload_n 2, 1, 0, 0, 0, 0, .null, []),
  (1, .iconst 1, 2, 0, 0, 0, 0, .int (nI 1), []),
  (2, .iconst 5, 3, 0, 0, 0, 0, .int (nI 5), []),
  (3, .invokestatic 25, 6, 24, 0, 0, 420, .retAddr 3, []),
  (6, .ifCond .ne 6, 9, 12, 0, 0, 0, .null, []),
  (9, .ldc 29, 11, 0, 0, 0, 421, .int ((-1000000001)), []),
  (11, .ireturn, 12, 0, 0, 0, 0, .int 0, []),
  (12, .aload_n 1, 13, 0, 0, 0, 0, .null, []),
  (13, .invokevirtual 30, 16, 40, 0, 11, 422, .retAddr 1, []),
  (16, .ifCond .ne 6, 19, 22, 0, 0, 0, .null, []),
  (19, .ldc 36, 21, 0, 0, 0, 426, .int ((-1000000002)), []),
  (21, .ireturn, 22, 0, 0, 0, 0, .int 0, []),
  (22, .aload_n 1, 23, 0, 0, 0, 0, .null, []),
  (23, .getfield 37, 26, 11, 14, 1, 107, .null, []),
  (26, .iconst 0, 27, 0, 0, 0, 0, .int (nI 0), []),
  (27, .iaload, 28, 0, 0, 0, 0, .null, []),
  (28, .istore_n 3, 29, 0, 0, 0, 0, .null, []),
  (29, .aload_n 1, 30, 0, 0, 0, 0, .null, []),
  (30, .iconst 0, 31, 0, 0, 0, 0, .int (nI 0), []),
  (31, .invokevirtual 40, 34, 43, 0, 11, 427, .retAddr 2, []),
  (34, .istore 4, 36, 0, 0, 0, 0, .null, []),
  (36, .iconst 0, 37, 0, 0, 0, 0, .int (nI 0), []),
  (37, .istore 5, 39, 0, 0, 0, 0, .null, []),
  (39, .iload 5, 41, 0, 0, 0, 0, .null, []),
  (41, .iload_n 2, 42, 0, 0, 0, 0, .null, []),
  (42, .if_icmp .ge 89, 45, 131, 0, 0, 0, .null, []),
  (45, .aload_n 0, 46, 0, 0, 0, 0, .null, []),
  (46, .invokevirtual 44, 49, 31, 1, 10, 428, .retAddr 1, []),
  (49, .iconst 0, 50, 0, 0, 0, 0, .int (nI 0), []),
  (50, .istore 6, 52, 0, 0, 0, 0, .null, []),
  (52, .iload 6, 54, 0, 0, 0, 0, .null, []),
  (54, .iload 4, 56, 0, 0, 0, 0, .null, []),
  (56, .if_icmp .ge 51, 59, 107, 0, 0, 0, .null, []),
  (59, .aload_n 0, 60, 0, 0, 0, 0, .null, []),
  (60, .aload_n 1, 61, 0, 0, 0, 0, .null, []),
  (61, .invokevirtual 47, 64, 33, 4, 10, 432, .retAddr 2, []),
  (64, .istore 7, 66, 0, 0, 0, 0, .null, []),
  (66, .aload_n 1, 67, 0, 0, 0, 0, .null, []),
  (67, .aload_n 0, 68, 0, 0, 0, 0, .null, []),
  (68, .getfield 12, 71, 10, 0, 0, 173, .null, []),
  (71, .iload 7, 73, 0, 0, 0, 0, .null, []),
  (73, .invokevirtual 51, 76, 59, 1, 11, 473, .retAddr 3, []),
  (76, .iload 7, 78, 0, 0, 0, 0, .null, []),
  (78, .ifCond .ne 23, 81, 101, 0, 0, 0, .null, []),
  (81, .aload_n 0, 82, 0, 0, 0, 0, .null, []),
  (82, .aload_n 1, 83, 0, 0, 0, 0, .null, []),
  (83, .aload_n 0, 84, 0, 0, 0, 0, .null, []),
  (84, .getfield 12, 87, 10, 0, 0, 173, .null, []),
  (87, .invokevirtual 55, 90, 61, 0, 11, 481, .retAddr 2, []),
  (90, .invokevirtual 59, 93, 32, 1, 10, 486, .retAddr 2, [])]
def cd30_1 : List En := [(93, .aload_n 1, 94, 0, 0, 0, 0, .null, []),
  (94, .aload_n 0, 95, 0, 0, 0, 0, .null, []),
  (95, .getfield 12, 98, 10, 0, 0, 173, .null, []),
  (98, .invokevirtual 63, 101, 60, 0, 11, 491, .retAddr 2, []),
  (101, .iinc 6 1, 104, 0, 0, 0, 0, .null, []),
  (104, .goto (-52), 107, 52, 0, 0, 0, .null, []),
  (107, .aload_n 1, 108, 0, 0, 0, 0, .null, []),
  (108, .aload_n 0, 109, 0, 0, 0, 0, .null, []),
  (109, .getfield 18, 112, 10, 1, 0, 175, .null, []),
  (112, .invokevirtual 67, 115, 62, 3, 11, 496, .retAddr 2, []),
  (115, .aload_n 1, 116, 0, 0, 0, 0, .null, []),
  (116, .dup, 117, 0, 0, 0, 0, .null, []),
  (117, .getfield 71, 120, 11, 13, 1, 104, .int 0, []),
  (120, .iconst 1, 121, 0, 0, 0, 0, .int (nI 1), []),
  (121, .iadd, 122, 0, 0, 0, 0, .null, []),
  (122, .putfield 71, 125, 11, 13, 1, 104, .int 0, []),
  (125, .iinc 5 1, 128, 0, 0, 0, 0, .null, []),
  (128, .goto (-89), 131, 39, 0, 0, 0, .null, []),
  (131, .aload_n 1, 132, 0, 0, 0, 0, .null, []),
  (132, .getfield 37, 135, 11, 14, 1, 107, .null, []),
  (135, .iconst 0, 136, 0, 0, 0, 0, .int (nI 0), []),
  (136, .iaload, 137, 0, 0, 0, 0, .null, []),
  (137, .iload_n 3, 138, 0, 0, 0, 0, .null, []),
  (138, .isub, 139, 0, 0, 0, 0, .null, []),
  (139, .ireturn, 140, 0, 0, 0, 0, .int 0, [])]
def cd30 : List En := cd30_0 ++ (cd30_1)
def cd31 : List En := [(0, .iconst 0, 1, 0, 0, 0, 0, .int (nI 0), []),
  (1, .istore_n 1, 2, 0, 0, 0, 0, .null, []),
  (2, .iload_n 1, 3, 0, 0, 0, 0, .null, []),
  (3, .aload_n 0, 4, 0, 0, 0, 0, .null, []),
  (4, .getfield 18, 7, 10, 1, 0, 175, .null, []),
  (7, .arraylength, 8, 0, 0, 0, 0, .null, []),
  (8, .if_icmp .ge 16, 11, 24, 0, 0, 0, .null, []),
  (11, .aload_n 0, 12, 0, 0, 0, 0, .null, []),
  (12, .getfield 18, 15, 10, 1, 0, 175, .null, []),
  (15, .iload_n 1, 16, 0, 0, 0, 0, .null, []),
  (16, .iconst 0, 17, 0, 0, 0, 0, .int (nI 0), []),
  (17, .iastore, 18, 0, 0, 0, 0, .null, []),
  (18, .iinc 1 1, 21, 0, 0, 0, 0, .null, []),
  (21, .goto (-19), 24, 2, 0, 0, 0, .null, []),
  (24, .return_, 25, 0, 0, 0, 0, .null, [])]
def cd32 : List En := [(0, .iconst 0, 1, 0, 0, 0, 0, .int (nI 0), []),
  (1, .istore_n 2, 2, 0, 0, 0, 0, .null, []),
  (2, .iload_n 2, 3, 0, 0, 0, 0, .null, []),
  (3, .aload_n 0, 4, 0, 0, 0, 0, .null, []),
  (4, .getfield 18, 7, 10, 1, 0, 175, .null, []),
  (7, .arraylength, 8, 0, 0, 0, 0, .null, []),
  (8, .if_icmp .ge 34, 11, 42, 0, 0, 0, .null, []),
  (11, .aload_n 0, 12, 0, 0, 0, 0, .null, []),
  (12, .getfield 18, 15, 10, 1, 0, 175, .null, []),
  (15, .iload_n 2, 16, 0, 0, 0, 0, .null, []),
  (16, .dup2, 17, 0, 0, 0, 0, .null, []),
  (17, .iaload, 18, 0, 0, 0, 0, .null, []),
  (18, .aload_n 0, 19, 0, 0, 0, 0, .null, []),
  (19, .getfield 12, 22, 10, 0, 0, 173, .null, []),
  (22, .iload_n 2, 23, 0, 0, 0, 0, .null, []),
  (23, .invokevirtual 75, 26, 90, 0, 15, 490, .retAddr 2, []),
  (26, .ifCond .eq 7, 29, 33, 0, 0, 0, .null, []),
  (29, .iload_n 1, 30, 0, 0, 0, 0, .null, []),
  (30, .goto 4, 33, 34, 0, 0, 0, .null, []),
  (33, .iconst 0, 34, 0, 0, 0, 0, .int (nI 0), []),
  (34, .iadd, 35, 0, 0, 0, 0, .null, []),
  (35, .iastore, 36, 0, 0, 0, 0, .null, []),
  (36, .iinc 2 1, 39, 0, 0, 0, 0, .null, []),
  (39, .goto (-37), 42, 2, 0, 0, 0, .null, []),
  (42, .return_, 43, 0, 0, 0, 0, .null, [])]
def cd33 : List En := [(0, .aload_n 0, 1, 0, 0, 0, 0, .null, []),
  (1, .getfield 12, 4, 10, 0, 0, 173, .null, []),
  (4, .invokevirtual 79, 7, 86, 0, 15, 436, .retAddr 1, []),
  (7, .iconst 0, 8, 0, 0, 0, 0, .int (nI 0), []),
  (8, .istore_n 2, 9, 0, 0, 0, 0, .null, []),
  (9, .iload_n 2, 10, 0, 0, 0, 0, .null, []),
  (10, .bipush 10, 12, 0, 0, 0, 0, .int (nI 10), []),
  (12, .if_icmp .ge 100, 15, 112, 0, 0, 0, .null, []),
  (15, .aload_n 0, 16, 0, 0, 0, 0, .null, []),
  (16, .getfield 12, 19, 10, 0, 0, 173, .null, []),
  (19, .invokevirtual 82, 22, 89, 0, 15, 440, .retAddr 1, []),
  (22, .aload_n 1, 23, 0, 0, 0, 0, .null, []),
  (23, .getfield 86, 26, 11, 10, 1, 98, .int 0, []),
  (26, .if_icmp .eq 86, 29, 112, 0, 0, 0, .null, []),
  (29, .aload_n 0, 30, 0, 0, 0, 0, .null, []),
  (30, .aload_n 1, 31, 0, 0, 0, 0, .null, []),
  (31, .invokevirtual 89, 34, 34, 3, 10, 445, .retAddr 2, []),
  (34, .istore_n 3, 35, 0, 0, 0, 0, .null, []),
  (35, .iload_n 3, 36, 0, 0, 0, 0, .null, []),
  (36, .ifCond .ne 5, 39, 41, 0, 0, 0, .null, []),
  (39, .iconst 1, 40, 0, 0, 0, 0, .int (nI 1), []),
  (40, .ireturn, 41, 0, 0, 0, 0, .int 0, []),
  (41, .aload_n 0, 42, 0, 0, 0, 0, .null, []),
  (42, .aload_n 1, 43, 0, 0, 0, 0, .null, []),
  (43, .aload_n 1, 44, 0, 0, 0, 0, .null, []),
  (44, .iload_n 3, 45, 0, 0, 0, 0, .null, []),
  (45, .invokevirtual 92, 48, 58, 0, 11, 455, .retAddr 2, []),
  (48, .invokevirtual 95, 51, 35, 2, 10, 461, .retAddr 3, []),
  (51, .istore 4, 53, 0, 0, 0, 0, .null, []),
  (53, .aload_n 1, 54, 0, 0, 0, 0, .null, []),
  (54, .iload 4, 56, 0, 0, 0, 0, .null, []),
  (56, .invokevirtual 99, 59, 44, 0, 11, 465, .retAddr 2, []),
  (59, .istore 5, 61, 0, 0, 0, 0, .null, []),
  (61, .aload_n 0, 62, 0, 0, 0, 0, .null, []),
  (62, .getfield 12, 65, 10, 0, 0, 173, .null, []),
  (65, .getfield 102, 68, 15, 2, 1, 47, .int 0, []),
  (68, .iload 5, 70, 0, 0, 0, 0, .null, []),
  (70, .iadd, 71, 0, 0, 0, 0, .null, []),
  (71, .aload_n 1, 72, 0, 0, 0, 0, .null, []),
  (72, .bipush 6, 74, 0, 0, 0, 0, .int (nI 6), []),
  (74, .invokevirtual 40, 77, 43, 0, 11, 427, .retAddr 2, []),
  (77, .if_icmp .le 5, 80, 82, 0, 0, 0, .null, []),
  (80, .iconst 2, 81, 0, 0, 0, 0, .int (nI 2), []),
  (81, .ireturn, 82, 0, 0, 0, 0, .int 0, []),
  (82, .aload_n 0, 83, 0, 0, 0, 0, .null, []),
  (83, .getfield 12, 86, 10, 0, 0, 173, .null, []),
  (86, .iload 4, 88, 0, 0, 0, 0, .null, []),
  (88, .aload_n 1, 89, 0, 0, 0, 0, .null, []),
  (89, .iload 4, 91, 0, 0, 0, 0, .null, []),
  (91, .aload_n 0, 92, 0, 0, 0, 0, .null, []),
  (92, .getfield 12, 95, 10, 0, 0, 173, .null, []),
  (95, .invokevirtual 82, 98, 89, 0, 15, 440, .retAddr 1, []),
  (98, .invokevirtual 105, 101, 46, 0, 11, 449, .retAddr 3, []),
  (101, .iload 5, 103, 0, 0, 0, 0, .null, []),
  (103, .invokevirtual 109, 106, 87, 0, 15, 469, .retAddr 4, []),
  (106, .iinc 2 1, 109, 0, 0, 0, 0, .null, []),
  (109, .goto (-100), 112, 9, 0, 0, 0, .null, []),
  (112, .iconst 0, 113, 0, 0, 0, 0, .int (nI 0), []),
  (113, .ireturn, 114, 0, 0, 0, 0, .int 0, [])]
def cd34 : List En := [(0, .aload_n 0, 1, 0, 0, 0, 0, .null, []),
  (1, .getfield 12, 4, 10, 0, 0, 173, .null, []),
  (4, .invokevirtual 82, 7, 89, 0, 15, 440, .retAddr 1, []),
  (7, .istore_n 2, 8, 0, 0, 0, 0, .null, []),
  (8, .iconst 0, 9, 0, 0, 0, 0, .int (nI 0), []),
  (9, .istore_n 3, 10, 0, 0, 0, 0, .null, []),
  (10, .iconst 0, 11, 0, 0, 0, 0, .int (nI 0), []),
  (11, .istore 4, 13, 0, 0, 0, 0, .null, []),
  (13, .iload 4, 15, 0, 0, 0, 0, .null, []),
  (15, .aload_n 1, 16, 0, 0, 0, 0, .null, []),
  (16, .getfield 113, 19, 11, 3, 1, 79, .int 0, []),
  (19, .if_icmp .ge 63, 22, 82, 0, 0, 0, .null, []),
  (22, .iload 4, 24, 0, 0, 0, 0, .null, []),
  (24, .aload_n 0, 25, 0, 0, 0, 0, .null, []),
  (25, .getfield 22, 28, 10, 2, 0, 176, .null, []),
  (28, .arraylength, 29, 0, 0, 0, 0, .null, []),
  (29, .if_icmp .ge 53, 32, 82, 0, 0, 0, .null, []),
  (32, .aload_n 0, 33, 0, 0, 0, 0, .null, []),
  (33, .getfield 22, 36, 10, 2, 0, 176, .null, []),
  (36, .iload 4, 38, 0, 0, 0, 0, .null, []),
  (38, .aload_n 0, 39, 0, 0, 0, 0, .null, []),
  (39, .getfield 12, 42, 10, 0, 0, 173, .null, []),
  (42, .aload_n 1, 43, 0, 0, 0, 0, .null, []),
  (43, .iload 4, 45, 0, 0, 0, 0, .null, []),
  (45, .iload_n 2, 46, 0, 0, 0, 0, .null, []),
  (46, .invokevirtual 105, 49, 46, 0, 11, 449, .retAddr 3, []),
  (49, .invokevirtual 116, 52, 92, 0, 15, 450, .retAddr 2, []),
  (52, .ifCond .eq 12, 55, 64, 0, 0, 0, .null, []),
  (55, .aload_n 1, 56, 0, 0, 0, 0, .null, []),
  (56, .iload 4, 58, 0, 0, 0, 0, .null, []),
  (58, .invokevirtual 119, 61, 45, 0, 11, 454, .retAddr 2, []),
  (61, .goto 4, 64, 65, 0, 0, 0, .null, []),
  (64, .iconst 0, 65, 0, 0, 0, 0, .int (nI 0), []),
  (65, .iastore, 66, 0, 0, 0, 0, .null, []),
  (66, .iload_n 3, 67, 0, 0, 0, 0, .null, []),
  (67, .aload_n 0, 68, 0, 0, 0, 0, .null, []),
  (68, .getfield 22, 71, 10, 2, 0, 176, .null, []),
  (71, .iload 4, 73, 0, 0, 0, 0, .null, []),
  (73, .iaload, 74, 0, 0, 0, 0, .null, []),
  (74, .iadd, 75, 0, 0, 0, 0, .null, []),
  (75, .istore_n 3, 76, 0, 0, 0, 0, .null, []),
  (76, .iinc 4 1, 79, 0, 0, 0, 0, .null, []),
  (79, .goto (-66), 82, 13, 0, 0, 0, .null, []),
  (82, .iload_n 3, 83, 0, 0, 0, 0, .null, []),
  (83, .ireturn, 84, 0, 0, 0, 0, .int 0, [])]
def cd35 : List En := [(0, .iload_n 2, 1, 0, 0, 0, 0, .null, []),
  (1, .istore_n 3, 2, 0, 0, 0, 0, .null, []),
  (2, .iconst 0, 3, 0, 0, 0, 0, .int (nI 0), []),
  (3, .istore 4, 5, 0, 0, 0, 0, .null, []),
  (5, .iload 4, 7, 0, 0, 0, 0, .null, []),
  (7, .aload_n 1, 8, 0, 0, 0, 0, .null, []),
  (8, .getfield 113, 11, 11, 3, 1, 79, .int 0, []),
  (11, .if_icmp .ge 36, 14, 47, 0, 0, 0, .null, []),
  (14, .iload 4, 16, 0, 0, 0, 0, .null, []),
  (16, .aload_n 0, 17, 0, 0, 0, 0, .null, []),
  (17, .getfield 22, 20, 10, 2, 0, 176, .null, []),
  (20, .arraylength, 21, 0, 0, 0, 0, .null, []),
  (21, .if_icmp .ge 26, 24, 47, 0, 0, 0, .null, []),
  (24, .iload_n 3, 25, 0, 0, 0, 0, .null, []),
  (25, .aload_n 0, 26, 0, 0, 0, 0, .null, []),
  (26, .getfield 22, 29, 10, 2, 0, 176, .null, []),
  (29, .iload 4, 31, 0, 0, 0, 0, .null, []),
  (31, .iaload, 32, 0, 0, 0, 0, .null, []),
  (32, .isub, 33, 0, 0, 0, 0, .null, []),
  (33, .istore_n 3, 34, 0, 0, 0, 0, .null, []),
  (34, .iload_n 3, 35, 0, 0, 0, 0, .null, []),
  (35, .ifCond .ge 6, 38, 41, 0, 0, 0, .null, []),
  (38, .iload 4, 40, 0, 0, 0, 0, .null, []),
  (40, .ireturn, 41, 0, 0, 0, 0, .int 0, []),
  (41, .iinc 4 1, 44, 0, 0, 0, 0, .null, []),
  (44, .goto (-39), 47, 5, 0, 0, 0, .null, []),
  (47, .iconst (-1), 48, 0, 0, 0, 0, .int ((-1)), []),
  (48, .ireturn, 49, 0, 0, 0, 0, .int 0, [])]
def cd36_0 : List En := [(0, .aload_n 0, 1, 0, 0, 0, 0, .null, []),
  (1, .invokespecial 3, 4, 900, 0, 0, 35, .null, []),
  (4, .aload_n 0, 5, 0, 0, 0, 0, .null, []),
  (5, .iconst 0, 6, 0, 0, 0, 0, .int (nI 0), []),
  (6, .putfield 9, 9, 11, 0, 0, 70, .int 0, []),
  (9, .aload_n 0, 10, 0, 0, 0, 0, .null, []),
  (10, .bipush 10, 12, 0, 0, 0, 0, .int (nI 10), []),
  (12, .newarray .int, 14, 0, 0, 0, 0, .null, []),
  (14, .putfield 15, 17, 11, 1, 0, 73, .null, []),
  (17, .aload_n 0, 18, 0, 0, 0, 0, .null, []),
  (18, .bipush 10, 20, 0, 0, 0, 0, .int (nI 10), []),
  (20, .newarray .int, 22, 0, 0, 0, 0, .null, []),
  (22, .putfield 19, 25, 11, 2, 0, 75, .null, []),
  (25, .aload_n 0, 26, 0, 0, 0, 0, .null, []),
  (26, .iconst 0, 27, 0, 0, 0, 0, .int (nI 0), []),
  (27, .putfield 22, 30, 11, 3, 0, 77, .int 0, []),
  (30, .aload_n 0, 31, 0, 0, 0, 0, .null, []),
  (31, .bipush 16, 33, 0, 0, 0, 0, .int (nI 16), []),
  (33, .newarray .int, 35, 0, 0, 0, 0, .null, []),
  (35, .putfield 25, 38, 11, 4, 0, 81, .null, []),
  (38, .aload_n 0, 39, 0, 0, 0, 0, .null, []),
  (39, .bipush 16, 41, 0, 0, 0, 0, .int (nI 16), []),
  (41, .newarray .int, 43, 0, 0, 0, 0, .null, []),
  (43, .putfield 28, 46, 11, 5, 0, 84, .null, []),
  (46, .aload_n 0, 47, 0, 0, 0, 0, .null, []),
  (47, .bipush 16, 49, 0, 0, 0, 0, .int (nI 16), []),
  (49, .newarray .int, 51, 0, 0, 0, 0, .null, []),
  (51, .putfield 31, 54, 11, 6, 0, 87, .null, []),
  (54, .aload_n 0, 55, 0, 0, 0, 0, .null, []),
  (55, .bipush 16, 57, 0, 0, 0, 0, .int (nI 16), []),
  (57, .newarray .int, 59, 0, 0, 0, 0, .null, []),
  (59, .putfield 34, 62, 11, 7, 0, 90, .null, []),
  (62, .aload_n 0, 63, 0, 0, 0, 0, .null, []),
  (63, .bipush 16, 65, 0, 0, 0, 0, .int (nI 16), []),
  (65, .newarray .int, 67, 0, 0, 0, 0, .null, []),
  (67, .putfield 37, 70, 11, 8, 0, 93, .null, []),
  (70, .aload_n 0, 71, 0, 0, 0, 0, .null, []),
  (71, .bipush 16, 73, 0, 0, 0, 0, .int (nI 16), []),
  (73, .newarray .int, 75, 0, 0, 0, 0, .null, []),
  (75, .putfield 40, 78, 11, 9, 0, 95, .null, []),
  (78, .aload_n 0, 79, 0, 0, 0, 0, .null, []),
  (79, .iconst 1, 80, 0, 0, 0, 0, .int (nI 1), []),
  (80, .putfield 43, 83, 11, 10, 0, 96, .int 0, []),
  (83, .aload_n 0, 84, 0, 0, 0, 0, .null, []),
  (84, .iconst 1, 85, 0, 0, 0, 0, .int (nI 1), []),
  (85, .putfield 46, 88, 11, 11, 0, 100, .int 0, []),
  (88, .aload_n 0, 89, 0, 0, 0, 0, .null, []),
  (89, .bipush 7, 91, 0, 0, 0, 0, .int (nI 7), []),
  (91, .newarray .int, 93, 0, 0, 0, 0, .null, []),
  (93, .putfield 49, 96, 11, 12, 0, 102, .null, [])]
def cd36_1 : List En := [(96, .aload_n 0, 97, 0, 0, 0, 0, .null, []),
  (97, .iconst 0, 98, 0, 0, 0, 0, .int (nI 0), []),
  (98, .putfield 52, 101, 11, 13, 0, 103, .int 0, []),
  (101, .aload_n 0, 102, 0, 0, 0, 0, .null, []),
  (102, .iconst 3, 103, 0, 0, 0, 0, .int (nI 3), []),
  (103, .newarray .int, 105, 0, 0, 0, 0, .null, []),
  (105, .putfield 55, 108, 11, 14, 0, 106, .null, []),
  (108, .aload_n 0, 109, 0, 0, 0, 0, .null, []),
  (109, .new 58, 112, 15, 5, 0, 36, .null, []),
  (112, .dup, 113, 0, 0, 0, 0, .null, []),
  (113, .invokespecial 60, 116, 85, 0, 15, 38, .retAddr 1, []),
  (116, .putfield 61, 119, 11, 15, 0, 109, .null, []),
  (119, .aload_n 0, 120, 0, 0, 0, 0, .null, []),
  (120, .iconst 0, 121, 0, 0, 0, 0, .int (nI 0), []),
  (121, .putfield 65, 124, 11, 16, 0, 111, .int 0, []),
  (124, .getstatic 68, 127, 1000, 0, 1, 65, .null, []),
  (127, .aload_n 0, 128, 0, 0, 0, 0, .null, []),
  (128, .getfield 49, 131, 11, 12, 0, 102, .null, []),
  (131, .invokestatic 71, 134, 27, 1, 0, 67, .retAddr 2, []),
  (134, .return_, 135, 0, 0, 0, 0, .null, [])]
def cd36 : List En := cd36_0 ++ (cd36_1)
def cd37_0 : List En := [(0, .aload_n 0, 1, 0, 0, 0, 0, .null, []),
  (1, .ifnull 7, 4, 8, 0, 0, 0, .null, []),
  (4, .aload_n 1, 5, 0, 0, 0, 0, .null, []),
  (5, .ifnonnull 4, 8, 9, 0, 0, 0, .null, []),
  (8, .return_, 9, 0, 0, 0, 0, .null, []),
  (9, .aload_n 1, 10, 0, 0, 0, 0, .null, []),
  (10, .aload_n 0, 11, 0, 0, 0, 0, .null, []),
  (11, .getfield 9, 14, 11, 0, 0, 70, .int 0, []),
  (14, .putfield 9, 17, 11, 0, 0, 70, .int 0, []),
  (17, .aload_n 0, 18, 0, 0, 0, 0, .null, []),
  (18, .getfield 15, 21, 11, 1, 0, 73, .null, []),
  (21, .aload_n 1, 22, 0, 0, 0, 0, .null, []),
  (22, .getfield 15, 25, 11, 1, 0, 73, .null, []),
  (25, .invokestatic 71, 28, 27, 1, 0, 67, .retAddr 2, []),
  (28, .aload_n 0, 29, 0, 0, 0, 0, .null, []),
  (29, .getfield 19, 32, 11, 2, 0, 75, .null, []),
  (32, .aload_n 1, 33, 0, 0, 0, 0, .null, []),
  (33, .getfield 19, 36, 11, 2, 0, 75, .null, []),
  (36, .invokestatic 71, 39, 27, 1, 0, 67, .retAddr 2, []),
  (39, .aload_n 1, 40, 0, 0, 0, 0, .null, []),
  (40, .aload_n 0, 41, 0, 0, 0, 0, .null, []),
  (41, .getfield 22, 44, 11, 3, 0, 77, .int 0, []),
  (44, .putfield 22, 47, 11, 3, 0, 77, .int 0, []),
  (47, .aload_n 0, 48, 0, 0, 0, 0, .null, []),
  (48, .getfield 25, 51, 11, 4, 0, 81, .null, []),
  (51, .aload_n 1, 52, 0, 0, 0, 0, .null, []),
  (52, .getfield 25, 55, 11, 4, 0, 81, .null, []),
  (55, .invokestatic 71, 58, 27, 1, 0, 67, .retAddr 2, []),
  (58, .aload_n 0, 59, 0, 0, 0, 0, .null, []),
  (59, .getfield 28, 62, 11, 5, 0, 84, .null, []),
  (62, .aload_n 1, 63, 0, 0, 0, 0, .null, []),
  (63, .getfield 28, 66, 11, 5, 0, 84, .null, []),
  (66, .invokestatic 71, 69, 27, 1, 0, 67, .retAddr 2, []),
  (69, .aload_n 0, 70, 0, 0, 0, 0, .null, []),
  (70, .getfield 31, 73, 11, 6, 0, 87, .null, []),
  (73, .aload_n 1, 74, 0, 0, 0, 0, .null, []),
  (74, .getfield 31, 77, 11, 6, 0, 87, .null, []),
  (77, .invokestatic 71, 80, 27, 1, 0, 67, .retAddr 2, []),
  (80, .aload_n 0, 81, 0, 0, 0, 0, .null, []),
  (81, .getfield 34, 84, 11, 7, 0, 90, .null, []),
  (84, .aload_n 1, 85, 0, 0, 0, 0, .null, []),
  (85, .getfield 34, 88, 11, 7, 0, 90, .null, []),
  (88, .invokestatic 71, 91, 27, 1, 0, 67, .retAddr 2, []),
  (91, .aload_n 0, 92, 0, 0, 0, 0, .null, []),
  (92, .getfield 37, 95, 11, 8, 0, 93, .null, []),
  (95, .aload_n 1, 96, 0, 0, 0, 0, .null, []),
  (96, .getfield 37, 99, 11, 8, 0, 93, .null, []),
  (99, .invokestatic 71, 102, 27, 1, 0, 67, .retAddr 2, []),
  (102, .aload_n 0, 103, 0, 0, 0, 0, .null, []),
  (103, .getfield 40, 106, 11, 9, 0, 95, .null, [])]
def cd37_1 : List En := [(106, .aload_n 1, 107, 0, 0, 0, 0, .null, []),
  (107, .getfield 40, 110, 11, 9, 0, 95, .null, []),
  (110, .invokestatic 71, 113, 27, 1, 0, 67, .retAddr 2, []),
  (113, .aload_n 1, 114, 0, 0, 0, 0, .null, []),
  (114, .aload_n 0, 115, 0, 0, 0, 0, .null, []),
  (115, .getfield 43, 118, 11, 10, 0, 96, .int 0, []),
  (118, .putfield 43, 121, 11, 10, 0, 96, .int 0, []),
  (121, .aload_n 1, 122, 0, 0, 0, 0, .null, []),
  (122, .aload_n 0, 123, 0, 0, 0, 0, .null, []),
  (123, .getfield 46, 126, 11, 11, 0, 100, .int 0, []),
  (126, .putfield 46, 129, 11, 11, 0, 100, .int 0, []),
  (129, .aload_n 0, 130, 0, 0, 0, 0, .null, []),
  (130, .getfield 49, 133, 11, 12, 0, 102, .null, []),
  (133, .aload_n 1, 134, 0, 0, 0, 0, .null, []),
  (134, .getfield 49, 137, 11, 12, 0, 102, .null, []),
  (137, .invokestatic 71, 140, 27, 1, 0, 67, .retAddr 2, []),
  (140, .aload_n 1, 141, 0, 0, 0, 0, .null, []),
  (141, .aload_n 0, 142, 0, 0, 0, 0, .null, []),
  (142, .getfield 52, 145, 11, 13, 0, 103, .int 0, []),
  (145, .putfield 52, 148, 11, 13, 0, 103, .int 0, []),
  (148, .aload_n 0, 149, 0, 0, 0, 0, .null, []),
  (149, .getfield 55, 152, 11, 14, 0, 106, .null, []),
  (152, .aload_n 1, 153, 0, 0, 0, 0, .null, []),
  (153, .getfield 55, 156, 11, 14, 0, 106, .null, []),
  (156, .invokestatic 71, 159, 27, 1, 0, 67, .retAddr 2, []),
  (159, .aload_n 0, 160, 0, 0, 0, 0, .null, []),
  (160, .getfield 61, 163, 11, 15, 0, 109, .null, []),
  (163, .aload_n 1, 164, 0, 0, 0, 0, .null, []),
  (164, .getfield 61, 167, 11, 15, 0, 109, .null, []),
  (167, .invokestatic 75, 170, 93, 0, 0, 302, .retAddr 2, []),
  (170, .aload_n 1, 171, 0, 0, 0, 0, .null, []),
  (171, .aload_n 0, 172, 0, 0, 0, 0, .null, []),
  (172, .getfield 65, 175, 11, 16, 0, 111, .int 0, []),
  (175, .putfield 65, 178, 11, 16, 0, 111, .int 0, []),
  (178, .return_, 179, 0, 0, 0, 0, .null, [])]
def cd37 : List En := cd37_0 ++ (cd37_1)
def cd38 : List En := [(0, .iload_n 1, 1, 0, 0, 0, 0, .null, []),
  (1, .ifCond .lt 21, 4, 22, 0, 0, 0, .null, []),
  (4, .iload_n 1, 5, 0, 0, 0, 0, .null, []),
  (5, .aload_n 0, 6, 0, 0, 0, 0, .null, []),
  (6, .getfield 9, 9, 11, 0, 0, 70, .int 0, []),
  (9, .if_icmp .ge 13, 12, 22, 0, 0, 0, .null, []),
  (12, .iload_n 1, 13, 0, 0, 0, 0, .null, []),
  (13, .bipush 10, 15, 0, 0, 0, 0, .int (nI 10), []),
  (15, .if_icmp .ge 7, 18, 22, 0, 0, 0, .null, []),
  (18, .iconst 1, 19, 0, 0, 0, 0, .int (nI 1), []),
  (19, .goto 4, 22, 23, 0, 0, 0, .null, []),
  (22, .iconst 0, 23, 0, 0, 0, 0, .int (nI 0), []),
  (23, .ireturn, 24, 0, 0, 0, 0, .int 1, [])]
def cd39 : List En := [(0, .iload_n 1, 1, 0, 0, 0, 0, .null, []),
  (1, .ifCond .lt 21, 4, 22, 0, 0, 0, .null, []),
  (4, .iload_n 1, 5, 0, 0, 0, 0, .null, []),
  (5, .aload_n 0, 6, 0, 0, 0, 0, .null, []),
  (6, .getfield 22, 9, 11, 3, 0, 77, .int 0, []),
  (9, .if_icmp .ge 13, 12, 22, 0, 0, 0, .null, []),
  (12, .iload_n 1, 13, 0, 0, 0, 0, .null, []),
  (13, .bipush 16, 15, 0, 0, 0, 0, .int (nI 16), []),
  (15, .if_icmp .ge 7, 18, 22, 0, 0, 0, .null, []),
  (18, .iconst 1, 19, 0, 0, 0, 0, .int (nI 1), []),
  (19, .goto 4, 22, 23, 0, 0, 0, .null, []),
  (22, .iconst 0, 23, 0, 0, 0, 0, .int (nI 0), []),
  (23, .ireturn, 24, 0, 0, 0, 0, .int 1, [])]
def cd40 : List En := [(0, .aload_n 0, 1, 0, 0, 0, 0, .null, []),
  (1, .getfield 9, 4, 11, 0, 0, 70, .int 0, []),
  (4, .iconst 2, 5, 0, 0, 0, 0, .int (nI 2), []),
  (5, .if_icmp .lt 7, 8, 12, 0, 0, 0, .null, []),
  (8, .iconst 1, 9, 0, 0, 0, 0, .int (nI 1), []),
  (9, .goto 4, 12, 13, 0, 0, 0, .null, []),
  (12, .iconst 0, 13, 0, 0, 0, 0, .int (nI 0), []),
  (13, .ireturn, 14, 0, 0, 0, 0, .int 1, [])]
def cd41 : List En := [(0, .aload_n 0, 1, 0, 0, 0, 0, .null, []),
  (1, .getfield 61, 4, 11, 15, 0, 109, .null, []),
  (4, .getfield 79, 7, 15, 1, 1, 44, .int 0, []),
  (7, .ifCond .le 7, 10, 14, 0, 0, 0, .null, []),
  (10, .iconst 1, 11, 0, 0, 0, 0, .int (nI 1), []),
  (11, .goto 4, 14, 15, 0, 0, 0, .null, []),
  (14, .iconst 0, 15, 0, 0, 0, 0, .int (nI 0), []),
  (15, .ireturn, 16, 0, 0, 0, 0, .int 1, [])]
def cd42 : List En := [(0, .aload_n 0, 1, 0, 0, 0, 0, .null, []),
  (1, .iload_n 1, 2, 0, 0, 0, 0, .null, []),
  (2, .invokevirtual 82, 5, 39, 0, 11, 274, .retAddr 2, []),
  (5, .ifCond .eq 17, 8, 22, 0, 0, 0, .null, []),
  (8, .aload_n 0, 9, 0, 0, 0, 0, .null, []),
  (9, .getfield 40, 12, 11, 9, 0, 95, .null, []),
  (12, .iload_n 1, 13, 0, 0, 0, 0, .null, []),
  (13, .iaload, 14, 0, 0, 0, 0, .null, []),
  (14, .iconst 1, 15, 0, 0, 0, 0, .int (nI 1), []),
  (15, .if_icmp .ne 7, 18, 22, 0, 0, 0, .null, []),
  (18, .iconst 1, 19, 0, 0, 0, 0, .int (nI 1), []),
  (19, .goto 4, 22, 23, 0, 0, 0, .null, []),
  (22, .iconst 0, 23, 0, 0, 0, 0, .int (nI 0), []),
  (23, .ireturn, 24, 0, 0, 0, 0, .int 1, [])]
def cd43 : List En := [(0, .iload_n 1, 1, 0, 0, 0, 0, .null, []),
  (1, .ifCond .lt 21, 4, 22, 0, 0, 0, .null, []),
  (4, .iload_n 1, 5, 0, 0, 0, 0, .null, []),
  (5, .aload_n 0, 6, 0, 0, 0, 0, .null, []),
  (6, .getfield 49, 9, 11, 12, 0, 102, .null, []),
  (9, .arraylength, 10, 0, 0, 0, 0, .null, []),
  (10, .if_icmp .ge 12, 13, 22, 0, 0, 0, .null, []),
  (13, .aload_n 0, 14, 0, 0, 0, 0, .null, []),
  (14, .getfield 49, 17, 11, 12, 0, 102, .null, []),
  (17, .iload_n 1, 18, 0, 0, 0, 0, .null, []),
  (18, .iaload, 19, 0, 0, 0, 0, .null, []),
  (19, .goto 4, 22, 23, 0, 0, 0, .null, []),
  (22, .iconst 0, 23, 0, 0, 0, 0, .int (nI 0), []),
  (23, .ireturn, 24, 0, 0, 0, 0, .int 0, [])]
def cd44 : List En := [(0, .aload_n 0, 1, 0, 0, 0, 0, .null, []),
  (1, .iload_n 1, 2, 0, 0, 0, 0, .null, []),
  (2, .invokevirtual 82, 5, 39, 0, 11, 274, .retAddr 2, []),
  (5, .ifCond .eq 12, 8, 17, 0, 0, 0, .null, []),
  (8, .aload_n 0, 9, 0, 0, 0, 0, .null, []),
  (9, .getfield 31, 12, 11, 6, 0, 87, .null, []),
  (12, .iload_n 1, 13, 0, 0, 0, 0, .null, []),
  (13, .iaload, 14, 0, 0, 0, 0, .null, []),
  (14, .goto 4, 17, 18, 0, 0, 0, .null, []),
  (17, .iconst 0, 18, 0, 0, 0, 0, .int (nI 0), []),
  (18, .ireturn, 19, 0, 0, 0, 0, .int 0, [])]
def cd45 : List En := [(0, .aload_n 0, 1, 0, 0, 0, 0, .null, []),
  (1, .iload_n 1, 2, 0, 0, 0, 0, .null, []),
  (2, .invokevirtual 82, 5, 39, 0, 11, 274, .retAddr 2, []),
  (5, .ifCond .eq 13, 8, 18, 0, 0, 0, .null, []),
  (8, .aload_n 0, 9, 0, 0, 0, 0, .null, []),
  (9, .getfield 31, 12, 11, 6, 0, 87, .null, []),
  (12, .iload_n 1, 13, 0, 0, 0, 0, .null, []),
  (13, .iaload, 14, 0, 0, 0, 0, .null, []),
  (14, .iconst 1, 15, 0, 0, 0, 0, .int (nI 1), []),
  (15, .if_icmp .ge 5, 18, 20, 0, 0, 0, .null, []),
  (18, .iconst 0, 19, 0, 0, 0, 0, .int (nI 0), []),
  (19, .ireturn, 20, 0, 0, 0, 0, .int 0, []),
  (20, .aload_n 0, 21, 0, 0, 0, 0, .null, []),
  (21, .getfield 34, 24, 11, 7, 0, 90, .null, []),
  (24, .iload_n 1, 25, 0, 0, 0, 0, .null, []),
  (25, .iaload, 26, 0, 0, 0, 0, .null, []),
  (26, .bipush 20, 28, 0, 0, 0, 0, .int (nI 20), []),
  (28, .imul, 29, 0, 0, 0, 0, .null, []),
  (29, .aload_n 0, 30, 0, 0, 0, 0, .null, []),
  (30, .getfield 31, 33, 11, 6, 0, 87, .null, []),
  (33, .iload_n 1, 34, 0, 0, 0, 0, .null, []),
  (34, .iaload, 35, 0, 0, 0, 0, .null, []),
  (35, .idiv, 36, 0, 0, 0, 0, .null, []),
  (36, .iconst 1, 37, 0, 0, 0, 0, .int (nI 1), []),
  (37, .iadd, 38, 0, 0, 0, 0, .null, []),
  (38, .ireturn, 39, 0, 0, 0, 0, .int 0, [])]
def cd46 : List En := [(0, .aload_n 0, 1, 0, 0, 0, 0, .null, []),
  (1, .iload_n 1, 2, 0, 0, 0, 0, .null, []),
  (2, .invokevirtual 82, 5, 39, 0, 11, 274, .retAddr 2, []),
  (5, .ifCond .eq 13, 8, 18, 0, 0, 0, .null, []),
  (8, .aload_n 0, 9, 0, 0, 0, 0, .null, []),
  (9, .getfield 40, 12, 11, 9, 0, 95, .null, []),
  (12, .iload_n 1, 13, 0, 0, 0, 0, .null, []),
  (13, .iaload, 14, 0, 0, 0, 0, .null, []),
  (14, .iconst 1, 15, 0, 0, 0, 0, .int (nI 1), []),
  (15, .if_icmp .ne 5, 18, 20, 0, 0, 0, .null, []),
  (18, .iconst (-1), 19, 0, 0, 0, 0, .int ((-1)), []),
  (19, .ireturn, 20, 0, 0, 0, 0, .int 0, []),
  (20, .aload_n 0, 21, 0, 0, 0, 0, .null, []),
  (21, .getfield 25, 24, 11, 4, 0, 81, .null, []),
  (24, .iload_n 1, 25, 0, 0, 0, 0, .null, []),
  (25, .iaload, 26, 0, 0, 0, 0, .null, []),
  (26, .iload_n 2, 27, 0, 0, 0, 0, .null, []),
  (27, .if_icmp .ne 10, 30, 37, 0, 0, 0, .null, []),
  (30, .aload_n 0, 31, 0, 0, 0, 0, .null, []),
  (31, .getfield 28, 34, 11, 5, 0, 84, .null, []),
  (34, .iload_n 1, 35, 0, 0, 0, 0, .null, []),
  (35, .iaload, 36, 0, 0, 0, 0, .null, []),
  (36, .ireturn, 37, 0, 0, 0, 0, .int 0, []),
  (37, .aload_n 0, 38, 0, 0, 0, 0, .null, []),
  (38, .getfield 28, 41, 11, 5, 0, 84, .null, []),
  (41, .iload_n 1, 42, 0, 0, 0, 0, .null, []),
  (42, .iaload, 43, 0, 0, 0, 0, .null, []),
  (43, .iload_n 2, 44, 0, 0, 0, 0, .null, []),
  (44, .if_icmp .ne 12, 47, 56, 0, 0, 0, .null, []),
  (47, .aload_n 0, 48, 0, 0, 0, 0, .null, []),
  (48, .getfield 25, 51, 11, 4, 0, 81, .null, []),
  (51, .iload_n 1, 52, 0, 0, 0, 0, .null, []),
  (52, .iaload, 53, 0, 0, 0, 0, .null, []),
  (53, .goto 4, 56, 57, 0, 0, 0, .null, []),
  (56, .iconst (-1), 57, 0, 0, 0, 0, .int ((-1)), []),
  (57, .ireturn, 58, 0, 0, 0, 0, .int 0, [])]
def cd47 : List En := [(0, .iconst 0, 1, 0, 0, 0, 0, .int (nI 0), []),
  (1, .istore_n 1, 2, 0, 0, 0, 0, .null, []),
  (2, .iconst 0, 3, 0, 0, 0, 0, .int (nI 0), []),
  (3, .istore_n 2, 4, 0, 0, 0, 0, .null, []),
  (4, .iload_n 2, 5, 0, 0, 0, 0, .null, []),
  (5, .aload_n 0, 6, 0, 0, 0, 0, .null, []),
  (6, .getfield 22, 9, 11, 3, 0, 77, .int 0, []),
  (9, .if_icmp .ge 25, 12, 34, 0, 0, 0, .null, []),
  (12, .iload_n 1, 13, 0, 0, 0, 0, .null, []),
  (13, .aload_n 0, 14, 0, 0, 0, 0, .null, []),
  (14, .iload_n 2, 15, 0, 0, 0, 0, .null, []),
  (15, .invokevirtual 86, 18, 42, 0, 11, 270, .retAddr 2, []),
  (18, .ifCond .eq 7, 21, 25, 0, 0, 0, .null, []),
  (21, .iconst 0, 22, 0, 0, 0, 0, .int (nI 0), []),
  (22, .goto 4, 25, 26, 0, 0, 0, .null, []),
  (25, .iconst 1, 26, 0, 0, 0, 0, .int (nI 1), []),
  (26, .iadd, 27, 0, 0, 0, 0, .null, []),
  (27, .istore_n 1, 28, 0, 0, 0, 0, .null, []),
  (28, .iinc 2 1, 31, 0, 0, 0, 0, .null, []),
  (31, .goto (-27), 34, 4, 0, 0, 0, .null, []),
  (34, .iload_n 1, 35, 0, 0, 0, 0, .null, []),
  (35, .ireturn, 36, 0, 0, 0, 0, .int 0, [])]
def cd48 : List En := [(0, .iconst 0, 1, 0, 0, 0, 0, .int (nI 0), []),
  (1, .istore_n 2, 2, 0, 0, 0, 0, .null, []),
  (2, .iconst 0, 3, 0, 0, 0, 0, .int (nI 0), []),
  (3, .istore_n 3, 4, 0, 0, 0, 0, .null, []),
  (4, .iload_n 3, 5, 0, 0, 0, 0, .null, []),
  (5, .aload_n 0, 6, 0, 0, 0, 0, .null, []),
  (6, .getfield 22, 9, 11, 3, 0, 77, .int 0, []),
  (9, .if_icmp .ge 27, 12, 36, 0, 0, 0, .null, []),
  (12, .iload_n 2, 13, 0, 0, 0, 0, .null, []),
  (13, .aload_n 0, 14, 0, 0, 0, 0, .null, []),
  (14, .iload_n 3, 15, 0, 0, 0, 0, .null, []),
  (15, .iload_n 1, 16, 0, 0, 0, 0, .null, []),
  (16, .invokevirtual 89, 19, 46, 0, 11, 348, .retAddr 3, []),
  (19, .iconst (-1), 20, 0, 0, 0, 0, .int ((-1)), []),
  (20, .if_icmp .ne 7, 23, 27, 0, 0, 0, .null, []),
  (23, .iconst 0, 24, 0, 0, 0, 0, .int (nI 0), []),
  (24, .goto 4, 27, 28, 0, 0, 0, .null, []),
  (27, .iconst 1, 28, 0, 0, 0, 0, .int (nI 1), []),
  (28, .iadd, 29, 0, 0, 0, 0, .null, []),
  (29, .istore_n 2, 30, 0, 0, 0, 0, .null, []),
  (30, .iinc 3 1, 33, 0, 0, 0, 0, .null, []),
  (33, .goto (-29), 36, 4, 0, 0, 0, .null, []),
  (36, .iload_n 2, 37, 0, 0, 0, 0, .null, []),
  (37, .ireturn, 38, 0, 0, 0, 0, .int 0, [])]
def cd49 : List En := [(0, .iconst 0, 1, 0, 0, 0, 0, .int (nI 0), []),
  (1, .istore_n 2, 2, 0, 0, 0, 0, .null, []),
  (2, .iconst 0, 3, 0, 0, 0, 0, .int (nI 0), []),
  (3, .istore_n 3, 4, 0, 0, 0, 0, .null, []),
  (4, .iload_n 3, 5, 0, 0, 0, 0, .null, []),
  (5, .aload_n 0, 6, 0, 0, 0, 0, .null, []),
  (6, .getfield 22, 9, 11, 3, 0, 77, .int 0, []),
  (9, .if_icmp .ge 31, 12, 40, 0, 0, 0, .null, []),
  (12, .iload_n 2, 13, 0, 0, 0, 0, .null, []),
  (13, .aload_n 0, 14, 0, 0, 0, 0, .null, []),
  (14, .iload_n 3, 15, 0, 0, 0, 0, .null, []),
  (15, .iload_n 1, 16, 0, 0, 0, 0, .null, []),
  (16, .invokevirtual 89, 19, 46, 0, 11, 348, .retAddr 3, []),
  (19, .iconst (-1), 20, 0, 0, 0, 0, .int ((-1)), []),
  (20, .if_icmp .ne 7, 23, 27, 0, 0, 0, .null, []),
  (23, .iconst 0, 24, 0, 0, 0, 0, .int (nI 0), []),
  (24, .goto 8, 27, 32, 0, 0, 0, .null, []),
  (27, .aload_n 0, 28, 0, 0, 0, 0, .null, []),
  (28, .iload_n 3, 29, 0, 0, 0, 0, .null, []),
  (29, .invokevirtual 93, 32, 45, 0, 11, 402, .retAddr 2, []),
  (32, .iadd, 33, 0, 0, 0, 0, .null, []),
  (33, .istore_n 2, 34, 0, 0, 0, 0, .null, []),
  (34, .iinc 3 1, 37, 0, 0, 0, 0, .null, []),
  (37, .goto (-33), 40, 4, 0, 0, 0, .null, []),
  (40, .iload_n 2, 41, 0, 0, 0, 0, .null, []),
  (41, .ireturn, 42, 0, 0, 0, 0, .int 0, [])]
def cd50 : List En := [(0, .iconst 0, 1, 0, 0, 0, 0, .int (nI 0), []),
  (1, .istore_n 1, 2, 0, 0, 0, 0, .null, []),
  (2, .iconst 0, 3, 0, 0, 0, 0, .int (nI 0), []),
  (3, .istore_n 2, 4, 0, 0, 0, 0, .null, []),
  (4, .iload_n 2, 5, 0, 0, 0, 0, .null, []),
  (5, .aload_n 0, 6, 0, 0, 0, 0, .null, []),
  (6, .getfield 22, 9, 11, 3, 0, 77, .int 0, []),
  (9, .if_icmp .ge 27, 12, 36, 0, 0, 0, .null, []),
  (12, .iload_n 2, 13, 0, 0, 0, 0, .null, []),
  (13, .aload_n 0, 14, 0, 0, 0, 0, .null, []),
  (14, .getfield 34, 17, 11, 7, 0, 90, .null, []),
  (17, .arraylength, 18, 0, 0, 0, 0, .null, []),
  (18, .if_icmp .ge 18, 21, 36, 0, 0, 0, .null, []),
  (21, .iload_n 1, 22, 0, 0, 0, 0, .null, []),
  (22, .aload_n 0, 23, 0, 0, 0, 0, .null, []),
  (23, .getfield 34, 26, 11, 7, 0, 90, .null, []),
  (26, .iload_n 2, 27, 0, 0, 0, 0, .null, []),
  (27, .iaload, 28, 0, 0, 0, 0, .null, []),
  (28, .iadd, 29, 0, 0, 0, 0, .null, []),
  (29, .istore_n 1, 30, 0, 0, 0, 0, .null, []),
  (30, .iinc 2 1, 33, 0, 0, 0, 0, .null, []),
  (33, .goto (-29), 36, 4, 0, 0, 0, .null, []),
  (36, .iload_n 1, 37, 0, 0, 0, 0, .null, []),
  (37, .ireturn, 38, 0, 0, 0, 0, .int 0, [])]
def cd51 : List En := [(0, .iconst 0, 1, 0, 0, 0, 0, .int (nI 0), []),
  (1, .istore_n 1, 2, 0, 0, 0, 0, .null, []),
  (2, .iconst 0, 3, 0, 0, 0, 0, .int (nI 0), []),
  (3, .istore_n 2, 4, 0, 0, 0, 0, .null, []),
  (4, .iload_n 2, 5, 0, 0, 0, 0, .null, []),
  (5, .aload_n 0, 6, 0, 0, 0, 0, .null, []),
  (6, .getfield 22, 9, 11, 3, 0, 77, .int 0, []),
  (9, .if_icmp .ge 29, 12, 38, 0, 0, 0, .null, []),
  (12, .iload_n 2, 13, 0, 0, 0, 0, .null, []),
  (13, .aload_n 0, 14, 0, 0, 0, 0, .null, []),
  (14, .getfield 34, 17, 11, 7, 0, 90, .null, []),
  (17, .arraylength, 18, 0, 0, 0, 0, .null, []),
  (18, .if_icmp .ge 20, 21, 38, 0, 0, 0, .null, []),
  (21, .iload_n 1, 22, 0, 0, 0, 0, .null, []),
  (22, .aload_n 0, 23, 0, 0, 0, 0, .null, []),
  (23, .getfield 34, 26, 11, 7, 0, 90, .null, []),
  (26, .iload_n 2, 27, 0, 0, 0, 0, .null, []),
  (27, .iaload, 28, 0, 0, 0, 0, .null, []),
  (28, .invokestatic 97, 31, 901, 0, 1, 286, .null, []),
  (31, .istore_n 1, 32, 0, 0, 0, 0, .null, []),
  (32, .iinc 2 1, 35, 0, 0, 0, 0, .null, []),
  (35, .goto (-31), 38, 4, 0, 0, 0, .null, []),
  (38, .iload_n 1, 39, 0, 0, 0, 0, .null, []),
  (39, .ireturn, 40, 0, 0, 0, 0, .int 0, [])]
def cd52 : List En := [(0, .aload_n 0, 1, 0, 0, 0, 0, .null, []),
  (1, .getfield 9, 4, 11, 0, 0, 70, .int 0, []),
  (4, .bipush 10, 6, 0, 0, 0, 0, .int (nI 10), []),
  (6, .if_icmp .lt 6, 9, 12, 0, 0, 0, .null, []),
  (9, .ldc 102, 11, 0, 0, 0, 555, .int ((-1000000003)), []),
  (11, .ireturn, 12, 0, 0, 0, 0, .int 0, []),
  (12, .aload_n 0, 13, 0, 0, 0, 0, .null, []),
  (13, .dup, 14, 0, 0, 0, 0, .null, []),
  (14, .getfield 9, 17, 11, 0, 0, 70, .int 0, []),
  (17, .iconst 1, 18, 0, 0, 0, 0, .int (nI 1), []),
  (18, .iadd, 19, 0, 0, 0, 0, .null, []),
  (19, .putfield 9, 22, 11, 0, 0, 70, .int 0, []),
  (22, .aload_n 0, 23, 0, 0, 0, 0, .null, []),
  (23, .getfield 9, 26, 11, 0, 0, 70, .int 0, []),
  (26, .iconst 1, 27, 0, 0, 0, 0, .int (nI 1), []),
  (27, .isub, 28, 0, 0, 0, 0, .null, []),
  (28, .ireturn, 29, 0, 0, 0, 0, .int 0, [])]
def cd53 : List En := [(0, .aload_n 0, 1, 0, 0, 0, 0, .null, []),
  (1, .iload_n 1, 2, 0, 0, 0, 0, .null, []),
  (2, .invokevirtual 103, 5, 38, 0, 11, 480, .retAddr 2, []),
  (5, .ifCond .eq 26, 8, 31, 0, 0, 0, .null, []),
  (8, .aload_n 0, 9, 0, 0, 0, 0, .null, []),
  (9, .iload_n 2, 10, 0, 0, 0, 0, .null, []),
  (10, .invokevirtual 103, 13, 38, 0, 11, 480, .retAddr 2, []),
  (13, .ifCond .eq 18, 16, 31, 0, 0, 0, .null, []),
  (16, .iload_n 1, 17, 0, 0, 0, 0, .null, []),
  (17, .iload_n 2, 18, 0, 0, 0, 0, .null, []),
  (18, .if_icmp .eq 13, 21, 31, 0, 0, 0, .null, []),
  (21, .iload_n 3, 22, 0, 0, 0, 0, .null, []),
  (22, .iconst 1, 23, 0, 0, 0, 0, .int (nI 1), []),
  (23, .bipush 20, 25, 0, 0, 0, 0, .int (nI 20), []),
  (25, .invokestatic 106, 28, 24, 0, 0, 574, .retAddr 3, []),
  (28, .ifCond .ne 6, 31, 34, 0, 0, 0, .null, []),
  (31, .ldc 110, 33, 0, 0, 0, 575, .int ((-1000000001)), []),
  (33, .ireturn, 34, 0, 0, 0, 0, .int 0, []),
  (34, .aload_n 0, 35, 0, 0, 0, 0, .null, []),
  (35, .getfield 22, 38, 11, 3, 0, 77, .int 0, []),
  (38, .ifCond .lt 12, 41, 50, 0, 0, 0, .null, []),
  (41, .aload_n 0, 42, 0, 0, 0, 0, .null, []),
  (42, .getfield 22, 45, 11, 3, 0, 77, .int 0, []),
  (45, .bipush 16, 47, 0, 0, 0, 0, .int (nI 16), []),
  (47, .if_icmp .lt 6, 50, 53, 0, 0, 0, .null, []),
  (50, .ldc 102, 52, 0, 0, 0, 555, .int ((-1000000003)), []),
  (52, .ireturn, 53, 0, 0, 0, 0, .int 0, []),
  (53, .aload_n 0, 54, 0, 0, 0, 0, .null, []),
  (54, .getfield 22, 57, 11, 3, 0, 77, .int 0, []),
  (57, .istore 4, 59, 0, 0, 0, 0, .null, []),
  (59, .aload_n 0, 60, 0, 0, 0, 0, .null, []),
  (60, .getfield 25, 63, 11, 4, 0, 81, .null, []),
  (63, .iload 4, 65, 0, 0, 0, 0, .null, []),
  (65, .iload_n 1, 66, 0, 0, 0, 0, .null, []),
  (66, .iastore, 67, 0, 0, 0, 0, .null, []),
  (67, .aload_n 0, 68, 0, 0, 0, 0, .null, []),
  (68, .getfield 28, 71, 11, 5, 0, 84, .null, []),
  (71, .iload 4, 73, 0, 0, 0, 0, .null, []),
  (73, .iload_n 2, 74, 0, 0, 0, 0, .null, []),
  (74, .iastore, 75, 0, 0, 0, 0, .null, []),
  (75, .aload_n 0, 76, 0, 0, 0, 0, .null, []),
  (76, .getfield 31, 79, 11, 6, 0, 87, .null, []),
  (79, .iload 4, 81, 0, 0, 0, 0, .null, []),
  (81, .iload_n 3, 82, 0, 0, 0, 0, .null, []),
  (82, .iastore, 83, 0, 0, 0, 0, .null, []),
  (83, .aload_n 0, 84, 0, 0, 0, 0, .null, []),
  (84, .getfield 34, 87, 11, 7, 0, 90, .null, []),
  (87, .iload 4, 89, 0, 0, 0, 0, .null, []),
  (89, .aload_n 0, 90, 0, 0, 0, 0, .null, []),
  (90, .iconst 4, 91, 0, 0, 0, 0, .int (nI 4), []),
  (91, .invokevirtual 111, 94, 43, 0, 11, 485, .retAddr 2, []),
  (94, .iastore, 95, 0, 0, 0, 0, .null, []),
  (95, .aload_n 0, 96, 0, 0, 0, 0, .null, []),
  (96, .dup, 97, 0, 0, 0, 0, .null, []),
  (97, .getfield 22, 100, 11, 3, 0, 77, .int 0, []),
  (100, .iconst 1, 101, 0, 0, 0, 0, .int (nI 1), []),
  (101, .iadd, 102, 0, 0, 0, 0, .null, []),
  (102, .putfield 22, 105, 11, 3, 0, 77, .int 0, []),
  (105, .iload 4, 107, 0, 0, 0, 0, .null, []),
  (107, .ireturn, 108, 0, 0, 0, 0, .int 0, [])]
def cd54 : List En := [(0, .aload_n 0, 1, 0, 0, 0, 0, .null, []),
  (1, .iload_n 1, 2, 0, 0, 0, 0, .null, []),
  (2, .invokevirtual 82, 5, 39, 0, 11, 274, .retAddr 2, []),
  (5, .ifCond .ne 6, 8, 11, 0, 0, 0, .null, []),
  (8, .ldc 110, 10, 0, 0, 0, 575, .int ((-1000000001)), []),
  (10, .ireturn, 11, 0, 0, 0, 0, .int 0, []),
  (11, .aload_n 0, 12, 0, 0, 0, 0, .null, []),
  (12, .iload_n 1, 13, 0, 0, 0, 0, .null, []),
  (13, .invokevirtual 86, 16, 42, 0, 11, 270, .retAddr 2, []),
  (16, .iload_n 2, 17, 0, 0, 0, 0, .null, []),
  (17, .if_icmp .ne 6, 20, 23, 0, 0, 0, .null, []),
  (20, .ldc 114, 22, 0, 0, 0, 584, .int ((-1000000002)), []),
  (22, .ireturn, 23, 0, 0, 0, 0, .int 0, []),
  (23, .aload_n 0, 24, 0, 0, 0, 0, .null, []),
  (24, .getfield 40, 27, 11, 9, 0, 95, .null, []),
  (27, .iload_n 1, 28, 0, 0, 0, 0, .null, []),
  (28, .iload_n 2, 29, 0, 0, 0, 0, .null, []),
  (29, .ifCond .eq 7, 32, 36, 0, 0, 0, .null, []),
  (32, .iconst 1, 33, 0, 0, 0, 0, .int (nI 1), []),
  (33, .goto 4, 36, 37, 0, 0, 0, .null, []),
  (36, .iconst 0, 37, 0, 0, 0, 0, .int (nI 0), []),
  (37, .iastore, 38, 0, 0, 0, 0, .null, []),
  (38, .aload_n 0, 39, 0, 0, 0, 0, .null, []),
  (39, .invokevirtual 115, 42, 47, 2, 11, 585, .retAddr 1, []),
  (42, .ireturn, 43, 0, 0, 0, 0, .int 0, [])]
def cd55 : List En := [(0, .iload_n 1, 1, 0, 0, 0, 0, .null, []),
  (1, .ifCond .eq 11, 4, 12, 0, 0, 0, .null, []),
  (4, .aload_n 0, 5, 0, 0, 0, 0, .null, []),
  (5, .iload_n 1, 6, 0, 0, 0, 0, .null, []),
  (6, .invokevirtual 103, 9, 38, 0, 11, 480, .retAddr 2, []),
  (9, .ifCond .ne 6, 12, 15, 0, 0, 0, .null, []),
  (12, .ldc 110, 14, 0, 0, 0, 575, .int ((-1000000001)), []),
  (14, .ireturn, 15, 0, 0, 0, 0, .int 0, []),
  (15, .iload_n 1, 16, 0, 0, 0, 0, .null, []),
  (16, .aload_n 0, 17, 0, 0, 0, 0, .null, []),
  (17, .getfield 43, 20, 11, 10, 0, 96, .int 0, []),
  (20, .if_icmp .ne 6, 23, 26, 0, 0, 0, .null, []),
  (23, .ldc 114, 25, 0, 0, 0, 584, .int ((-1000000002)), []),
  (25, .ireturn, 26, 0, 0, 0, 0, .int 0, []),
  (26, .aload_n 0, 27, 0, 0, 0, 0, .null, []),
  (27, .getfield 43, 30, 11, 10, 0, 96, .int 0, []),
  (30, .istore_n 2, 31, 0, 0, 0, 0, .null, []),
  (31, .aload_n 0, 32, 0, 0, 0, 0, .null, []),
  (32, .iload_n 1, 33, 0, 0, 0, 0, .null, []),
  (33, .putfield 43, 36, 11, 10, 0, 96, .int 0, []),
  (36, .aload_n 0, 37, 0, 0, 0, 0, .null, []),
  (37, .getfield 61, 40, 11, 15, 0, 109, .null, []),
  (40, .invokevirtual 119, 43, 86, 0, 15, 594, .retAddr 1, []),
  (43, .iload_n 2, 44, 0, 0, 0, 0, .null, []),
  (44, .ireturn, 45, 0, 0, 0, 0, .int 0, [])]
def cd56 : List En := [(0, .aload_n 0, 1, 0, 0, 0, 0, .null, []),
  (1, .invokevirtual 122, 4, 50, 2, 11, 603, .retAddr 1, []),
  (4, .istore_n 1, 5, 0, 0, 0, 0, .null, []),
  (5, .iconst 0, 6, 0, 0, 0, 0, .int (nI 0), []),
  (6, .istore_n 2, 7, 0, 0, 0, 0, .null, []),
  (7, .iload_n 2, 8, 0, 0, 0, 0, .null, []),
  (8, .aload_n 0, 9, 0, 0, 0, 0, .null, []),
  (9, .getfield 22, 12, 11, 3, 0, 77, .int 0, []),
  (12, .if_icmp .ge 29, 15, 41, 0, 0, 0, .null, []),
  (15, .iload_n 2, 16, 0, 0, 0, 0, .null, []),
  (16, .aload_n 0, 17, 0, 0, 0, 0, .null, []),
  (17, .getfield 34, 20, 11, 7, 0, 90, .null, []),
  (20, .arraylength, 21, 0, 0, 0, 0, .null, []),
  (21, .if_icmp .ge 20, 24, 41, 0, 0, 0, .null, []),
  (24, .aload_n 0, 25, 0, 0, 0, 0, .null, []),
  (25, .getfield 34, 28, 11, 7, 0, 90, .null, []),
  (28, .iload_n 2, 29, 0, 0, 0, 0, .null, []),
  (29, .aload_n 0, 30, 0, 0, 0, 0, .null, []),
  (30, .iconst 4, 31, 0, 0, 0, 0, .int (nI 4), []),
  (31, .invokevirtual 111, 34, 43, 0, 11, 485, .retAddr 2, []),
  (34, .iastore, 35, 0, 0, 0, 0, .null, []),
  (35, .iinc 2 1, 38, 0, 0, 0, 0, .null, []),
  (38, .goto (-31), 41, 7, 0, 0, 0, .null, []),
  (41, .aload_n 0, 42, 0, 0, 0, 0, .null, []),
  (42, .getfield 61, 45, 11, 15, 0, 109, .null, []),
  (45, .invokevirtual 119, 48, 86, 0, 15, 594, .retAddr 1, []),
  (48, .iload_n 1, 49, 0, 0, 0, 0, .null, []),
  (49, .aload_n 0, 50, 0, 0, 0, 0, .null, []),
  (50, .invokevirtual 122, 53, 50, 2, 11, 603, .retAddr 1, []),
  (53, .isub, 54, 0, 0, 0, 0, .null, []),
  (54, .ireturn, 55, 0, 0, 0, 0, .int 0, [])]
def cd57 : List En := [(0, .iload_n 1, 1, 0, 0, 0, 0, .null, []),
  (1, .iconst 0, 2, 0, 0, 0, 0, .int (nI 0), []),
  (2, .bipush 6, 4, 0, 0, 0, 0, .int (nI 6), []),
  (4, .invokestatic 106, 7, 24, 0, 0, 574, .retAddr 3, []),
  (7, .ifCond .eq 20, 10, 27, 0, 0, 0, .null, []),
  (10, .iload_n 2, 11, 0, 0, 0, 0, .null, []),
  (11, .getstatic 125, 14, 1001, 0, 1, 612, .null, []),
  (14, .iload_n 1, 15, 0, 0, 0, 0, .null, []),
  (15, .iaload, 16, 0, 0, 0, 0, .null, []),
  (16, .getstatic 128, 19, 1002, 0, 1, 614, .null, []),
  (19, .iload_n 1, 20, 0, 0, 0, 0, .null, []),
  (20, .iaload, 21, 0, 0, 0, 0, .null, []),
  (21, .invokestatic 106, 24, 24, 0, 0, 574, .retAddr 3, []),
  (24, .ifCond .ne 6, 27, 30, 0, 0, 0, .null, []),
  (27, .ldc 110, 29, 0, 0, 0, 575, .int ((-1000000001)), []),
  (29, .ireturn, 30, 0, 0, 0, 0, .int 0, []),
  (30, .aload_n 0, 31, 0, 0, 0, 0, .null, []),
  (31, .getfield 49, 34, 11, 12, 0, 102, .null, []),
  (34, .iload_n 1, 35, 0, 0, 0, 0, .null, []),
  (35, .iaload, 36, 0, 0, 0, 0, .null, []),
  (36, .istore_n 3, 37, 0, 0, 0, 0, .null, []),
  (37, .aload_n 0, 38, 0, 0, 0, 0, .null, []),
  (38, .getfield 49, 41, 11, 12, 0, 102, .null, []),
  (41, .iload_n 1, 42, 0, 0, 0, 0, .null, []),
  (42, .iload_n 2, 43, 0, 0, 0, 0, .null, []),
  (43, .iastore, 44, 0, 0, 0, 0, .null, []),
  (44, .iload_n 3, 45, 0, 0, 0, 0, .null, []),
  (45, .ireturn, 46, 0, 0, 0, 0, .int 0, [])]
def cd58 : List En := [(0, .iload_n 1, 1, 0, 0, 0, 0, .null, []),
  (1, .iconst 1, 2, 0, 0, 0, 0, .int (nI 1), []),
  (2, .if_icmp .ge 5, 5, 7, 0, 0, 0, .null, []),
  (5, .iconst 0, 6, 0, 0, 0, 0, .int (nI 0), []),
  (6, .ireturn, 7, 0, 0, 0, 0, .int 0, []),
  (7, .aload_n 0, 8, 0, 0, 0, 0, .null, []),
  (8, .aload_n 0, 9, 0, 0, 0, 0, .null, []),
  (9, .getfield 46, 12, 11, 11, 0, 100, .int 0, []),
  (12, .i2l, 13, 0, 0, 0, 0, .null, []),
  (13, .ldc2_w 131, 16, 0, 0, 0, 459, .long 16807, []),
  (16, .lmul, 17, 0, 0, 0, 0, .null, []),
  (17, .ldc2_w 133, 20, 0, 0, 0, 460, .long 2147483647, []),
  (20, .lrem, 21, 0, 0, 0, 0, .null, []),
  (21, .l2i, 22, 0, 0, 0, 0, .null, []),
  (22, .putfield 46, 25, 11, 11, 0, 100, .int 0, []),
  (25, .aload_n 0, 26, 0, 0, 0, 0, .null, []),
  (26, .getfield 46, 29, 11, 11, 0, 100, .int 0, []),
  (29, .iload_n 1, 30, 0, 0, 0, 0, .null, []),
  (30, .irem, 31, 0, 0, 0, 0, .null, []),
  (31, .ireturn, 32, 0, 0, 0, 0, .int 0, [])]
def cd59_0 : List En := [(0, .iconst 0, 1, 0, 0, 0, 0, .int (nI 0), []),
  (1, .istore_n 3, 2, 0, 0, 0, 0, .null, []),
  (2, .iload_n 3, 3, 0, 0, 0, 0, .null, []),
  (3, .aload_n 0, 4, 0, 0, 0, 0, .null, []),
  (4, .getfield 37, 7, 11, 8, 0, 93, .null, []),
  (7, .arraylength, 8, 0, 0, 0, 0, .null, []),
  (8, .if_icmp .ge 31, 11, 39, 0, 0, 0, .null, []),
  (11, .aload_n 0, 12, 0, 0, 0, 0, .null, []),
  (12, .getfield 37, 15, 11, 8, 0, 93, .null, []),
  (15, .iload_n 3, 16, 0, 0, 0, 0, .null, []),
  (16, .dup2, 17, 0, 0, 0, 0, .null, []),
  (17, .iaload, 18, 0, 0, 0, 0, .null, []),
  (18, .aload_n 1, 19, 0, 0, 0, 0, .null, []),
  (19, .iload_n 3, 20, 0, 0, 0, 0, .null, []),
  (20, .invokevirtual 135, 23, 90, 0, 15, 477, .retAddr 2, []),
  (23, .ifCond .eq 7, 26, 30, 0, 0, 0, .null, []),
  (26, .iconst 1, 27, 0, 0, 0, 0, .int (nI 1), []),
  (27, .goto 4, 30, 31, 0, 0, 0, .null, []),
  (30, .iconst 0, 31, 0, 0, 0, 0, .int (nI 0), []),
  (31, .iadd, 32, 0, 0, 0, 0, .null, []),
  (32, .iastore, 33, 0, 0, 0, 0, .null, []),
  (33, .iinc 3 1, 36, 0, 0, 0, 0, .null, []),
  (36, .goto (-34), 39, 2, 0, 0, 0, .null, []),
  (39, .iconst 1, 40, 0, 0, 0, 0, .int (nI 1), []),
  (40, .istore_n 3, 41, 0, 0, 0, 0, .null, []),
  (41, .iload_n 3, 42, 0, 0, 0, 0, .null, []),
  (42, .aload_n 0, 43, 0, 0, 0, 0, .null, []),
  (43, .getfield 15, 46, 11, 1, 0, 73, .null, []),
  (46, .arraylength, 47, 0, 0, 0, 0, .null, []),
  (47, .if_icmp .ge 31, 50, 78, 0, 0, 0, .null, []),
  (50, .aload_n 0, 51, 0, 0, 0, 0, .null, []),
  (51, .getfield 15, 54, 11, 1, 0, 73, .null, []),
  (54, .iload_n 3, 55, 0, 0, 0, 0, .null, []),
  (55, .dup2, 56, 0, 0, 0, 0, .null, []),
  (56, .iaload, 57, 0, 0, 0, 0, .null, []),
  (57, .aload_n 1, 58, 0, 0, 0, 0, .null, []),
  (58, .iload_n 3, 59, 0, 0, 0, 0, .null, []),
  (59, .invokevirtual 138, 62, 91, 0, 15, 478, .retAddr 2, []),
  (62, .ifCond .eq 7, 65, 69, 0, 0, 0, .null, []),
  (65, .iconst 1, 66, 0, 0, 0, 0, .int (nI 1), []),
  (66, .goto 4, 69, 70, 0, 0, 0, .null, []),
  (69, .iconst 0, 70, 0, 0, 0, 0, .int (nI 0), []),
  (70, .iadd, 71, 0, 0, 0, 0, .null, []),
  (71, .iastore, 72, 0, 0, 0, 0, .null, []),
  (72, .iinc 3 1, 75, 0, 0, 0, 0, .null, []),
  (75, .goto (-34), 78, 41, 0, 0, 0, .null, []),
  (78, .iload_n 2, 79, 0, 0, 0, 0, .null, []),
  (79, .ifCond .lt 22, 82, 101, 0, 0, 0, .null, []),
  (82, .iload_n 2, 83, 0, 0, 0, 0, .null, []),
  (83, .aload_n 0, 84, 0, 0, 0, 0, .null, [])]
def cd59_1 : List En := [(84, .getfield 55, 87, 11, 14, 0, 106, .null, []),
  (87, .arraylength, 88, 0, 0, 0, 0, .null, []),
  (88, .if_icmp .ge 13, 91, 101, 0, 0, 0, .null, []),
  (91, .aload_n 0, 92, 0, 0, 0, 0, .null, []),
  (92, .getfield 55, 95, 11, 14, 0, 106, .null, []),
  (95, .iload_n 2, 96, 0, 0, 0, 0, .null, []),
  (96, .dup2, 97, 0, 0, 0, 0, .null, []),
  (97, .iaload, 98, 0, 0, 0, 0, .null, []),
  (98, .iconst 1, 99, 0, 0, 0, 0, .int (nI 1), []),
  (99, .iadd, 100, 0, 0, 0, 0, .null, []),
  (100, .iastore, 101, 0, 0, 0, 0, .null, []),
  (101, .aload_n 1, 102, 0, 0, 0, 0, .null, []),
  (102, .invokevirtual 141, 105, 89, 0, 15, 479, .retAddr 1, []),
  (105, .istore_n 3, 106, 0, 0, 0, 0, .null, []),
  (106, .iload_n 2, 107, 0, 0, 0, 0, .null, []),
  (107, .iconst 1, 108, 0, 0, 0, 0, .int (nI 1), []),
  (108, .if_icmp .ne 21, 111, 129, 0, 0, 0, .null, []),
  (111, .aload_n 0, 112, 0, 0, 0, 0, .null, []),
  (112, .iload_n 3, 113, 0, 0, 0, 0, .null, []),
  (113, .invokevirtual 103, 116, 38, 0, 11, 480, .retAddr 2, []),
  (116, .ifCond .eq 13, 119, 129, 0, 0, 0, .null, []),
  (119, .aload_n 0, 120, 0, 0, 0, 0, .null, []),
  (120, .getfield 19, 123, 11, 2, 0, 75, .null, []),
  (123, .iload_n 3, 124, 0, 0, 0, 0, .null, []),
  (124, .dup2, 125, 0, 0, 0, 0, .null, []),
  (125, .iaload, 126, 0, 0, 0, 0, .null, []),
  (126, .iconst 1, 127, 0, 0, 0, 0, .int (nI 1), []),
  (127, .iadd, 128, 0, 0, 0, 0, .null, []),
  (128, .iastore, 129, 0, 0, 0, 0, .null, []),
  (129, .return_, 130, 0, 0, 0, 0, .null, [])]
def cd59 : List En := cd59_0 ++ (cd59_1)
def cd60 : List En := [(0, .aload_n 0, 1, 0, 0, 0, 0, .null, []),
  (1, .invokevirtual 144, 4, 41, 0, 11, 495, .retAddr 1, []),
  (4, .ifCond .eq 17, 7, 21, 0, 0, 0, .null, []),
  (7, .aload_n 1, 8, 0, 0, 0, 0, .null, []),
  (8, .getfield 148, 11, 15, 2, 1, 49, .int 0, []),
  (11, .aload_n 0, 12, 0, 0, 0, 0, .null, []),
  (12, .getfield 61, 15, 11, 15, 0, 109, .null, []),
  (15, .getfield 148, 18, 15, 2, 1, 49, .int 0, []),
  (18, .if_icmp .ge 19, 21, 37, 0, 0, 0, .null, []),
  (21, .aload_n 1, 22, 0, 0, 0, 0, .null, []),
  (22, .aload_n 0, 23, 0, 0, 0, 0, .null, []),
  (23, .getfield 61, 26, 11, 15, 0, 109, .null, []),
  (26, .invokestatic 75, 29, 93, 0, 0, 302, .retAddr 2, []),
  (29, .aload_n 0, 30, 0, 0, 0, 0, .null, []),
  (30, .aload_n 0, 31, 0, 0, 0, 0, .null, []),
  (31, .getfield 52, 34, 11, 13, 0, 103, .int 0, []),
  (34, .putfield 65, 37, 11, 16, 0, 111, .int 0, []),
  (37, .return_, 38, 0, 0, 0, 0, .null, [])]
def cd61 : List En := [(0, .aload_n 1, 1, 0, 0, 0, 0, .null, []),
  (1, .getfield 148, 4, 15, 2, 1, 49, .int 0, []),
  (4, .iconst 1, 5, 0, 0, 0, 0, .int (nI 1), []),
  (5, .if_icmp .ge 7, 8, 12, 0, 0, 0, .null, []),
  (8, .iconst 0, 9, 0, 0, 0, 0, .int (nI 0), []),
  (9, .goto 13, 12, 22, 0, 0, 0, .null, []),
  (12, .aload_n 0, 13, 0, 0, 0, 0, .null, []),
  (13, .iconst 2, 14, 0, 0, 0, 0, .int (nI 2), []),
  (14, .invokevirtual 111, 17, 43, 0, 11, 485, .retAddr 2, []),
  (17, .aload_n 1, 18, 0, 0, 0, 0, .null, []),
  (18, .getfield 148, 21, 15, 2, 1, 49, .int 0, []),
  (21, .idiv, 22, 0, 0, 0, 0, .null, []),
  (22, .ireturn, 23, 0, 0, 0, 0, .int 0, [])]
def cd62_0 : List En := [(0, .aload_n 0, 1, 0, 0, 0, 0, .null, []),
  (1, .invokevirtual 144, 4, 41, 0, 11, 495, .retAddr 1, []),
  (4, .ifCond .eq 20, 7, 24, 0, 0, 0, .null, []),
  (7, .aload_n 0, 8, 0, 0, 0, 0, .null, []),
  (8, .iconst 3, 9, 0, 0, 0, 0, .int (nI 3), []),
  (9, .invokevirtual 111, 12, 43, 0, 11, 485, .retAddr 2, []),
  (12, .aload_n 0, 13, 0, 0, 0, 0, .null, []),
  (13, .aload_n 0, 14, 0, 0, 0, 0, .null, []),
  (14, .getfield 61, 17, 11, 15, 0, 109, .null, []),
  (17, .invokevirtual 151, 20, 61, 0, 11, 500, .retAddr 2, []),
  (20, .imul, 21, 0, 0, 0, 0, .null, []),
  (21, .goto 4, 24, 25, 0, 0, 0, .null, []),
  (24, .iconst 0, 25, 0, 0, 0, 0, .int (nI 0), []),
  (25, .istore_n 2, 26, 0, 0, 0, 0, .null, []),
  (26, .iconst 0, 27, 0, 0, 0, 0, .int (nI 0), []),
  (27, .istore_n 3, 28, 0, 0, 0, 0, .null, []),
  (28, .iload_n 3, 29, 0, 0, 0, 0, .null, []),
  (29, .aload_n 0, 30, 0, 0, 0, 0, .null, []),
  (30, .getfield 22, 33, 11, 3, 0, 77, .int 0, []),
  (33, .if_icmp .ge 97, 36, 130, 0, 0, 0, .null, []),
  (36, .iload_n 3, 37, 0, 0, 0, 0, .null, []),
  (37, .aload_n 0, 38, 0, 0, 0, 0, .null, []),
  (38, .getfield 34, 41, 11, 7, 0, 90, .null, []),
  (41, .arraylength, 42, 0, 0, 0, 0, .null, []),
  (42, .if_icmp .ge 88, 45, 130, 0, 0, 0, .null, []),
  (45, .iload_n 3, 46, 0, 0, 0, 0, .null, []),
  (46, .aload_n 1, 47, 0, 0, 0, 0, .null, []),
  (47, .arraylength, 48, 0, 0, 0, 0, .null, []),
  (48, .if_icmp .ge 82, 51, 130, 0, 0, 0, .null, []),
  (51, .aload_n 0, 52, 0, 0, 0, 0, .null, []),
  (52, .getfield 34, 55, 11, 7, 0, 90, .null, []),
  (55, .iload_n 3, 56, 0, 0, 0, 0, .null, []),
  (56, .iaload, 57, 0, 0, 0, 0, .null, []),
  (57, .aload_n 0, 58, 0, 0, 0, 0, .null, []),
  (58, .getfield 34, 61, 11, 7, 0, 90, .null, []),
  (61, .iload_n 3, 62, 0, 0, 0, 0, .null, []),
  (62, .iaload, 63, 0, 0, 0, 0, .null, []),
  (63, .aload_n 0, 64, 0, 0, 0, 0, .null, []),
  (64, .iconst 1, 65, 0, 0, 0, 0, .int (nI 1), []),
  (65, .invokevirtual 111, 68, 43, 0, 11, 485, .retAddr 2, []),
  (68, .imul, 69, 0, 0, 0, 0, .null, []),
  (69, .bipush 100, 71, 0, 0, 0, 0, .int (nI 100), []),
  (71, .idiv, 72, 0, 0, 0, 0, .null, []),
  (72, .isub, 73, 0, 0, 0, 0, .null, []),
  (73, .aload_n 1, 74, 0, 0, 0, 0, .null, []),
  (74, .iload_n 3, 75, 0, 0, 0, 0, .null, []),
  (75, .iaload, 76, 0, 0, 0, 0, .null, []),
  (76, .iadd, 77, 0, 0, 0, 0, .null, []),
  (77, .istore 4, 79, 0, 0, 0, 0, .null, []),
  (79, .iload 4, 81, 0, 0, 0, 0, .null, [])]
def cd62_1 : List En := [(81, .aload_n 0, 82, 0, 0, 0, 0, .null, []),
  (82, .getfield 61, 85, 11, 15, 0, 109, .null, []),
  (85, .iload_n 3, 86, 0, 0, 0, 0, .null, []),
  (86, .invokevirtual 135, 89, 90, 0, 15, 477, .retAddr 2, []),
  (89, .ifCond .eq 7, 92, 96, 0, 0, 0, .null, []),
  (92, .iload_n 2, 93, 0, 0, 0, 0, .null, []),
  (93, .goto 4, 96, 97, 0, 0, 0, .null, []),
  (96, .iconst 0, 97, 0, 0, 0, 0, .int (nI 0), []),
  (97, .iadd, 98, 0, 0, 0, 0, .null, []),
  (98, .istore 4, 100, 0, 0, 0, 0, .null, []),
  (100, .aload_n 0, 101, 0, 0, 0, 0, .null, []),
  (101, .getfield 34, 104, 11, 7, 0, 90, .null, []),
  (104, .iload_n 3, 105, 0, 0, 0, 0, .null, []),
  (105, .iload 4, 107, 0, 0, 0, 0, .null, []),
  (107, .aload_n 0, 108, 0, 0, 0, 0, .null, []),
  (108, .iconst 4, 109, 0, 0, 0, 0, .int (nI 4), []),
  (109, .invokevirtual 111, 112, 43, 0, 11, 485, .retAddr 2, []),
  (112, .invokestatic 97, 115, 901, 0, 1, 286, .null, []),
  (115, .aload_n 0, 116, 0, 0, 0, 0, .null, []),
  (116, .iconst 5, 117, 0, 0, 0, 0, .int (nI 5), []),
  (117, .invokevirtual 111, 120, 43, 0, 11, 485, .retAddr 2, []),
  (120, .invokestatic 155, 123, 902, 0, 2, 501, .null, []),
  (123, .iastore, 124, 0, 0, 0, 0, .null, []),
  (124, .iinc 3 1, 127, 0, 0, 0, 0, .null, []),
  (127, .goto (-99), 130, 28, 0, 0, 0, .null, []),
  (130, .return_, 131, 0, 0, 0, 0, .null, [])]
def cd62 : List En := cd62_0 ++ (cd62_1)
def cd63 : List En := [(0, .aload_n 0, 1, 0, 0, 0, 0, .null, []),
  (1, .invokespecial 3, 4, 900, 0, 0, 153, .null, []),
  (4, .aload_n 0, 5, 0, 0, 0, 0, .null, []),
  (5, .iconst 5, 6, 0, 0, 0, 0, .int (nI 5), []),
  (6, .anewarray 9, 9, 0, 0, 0, 154, .null, []),
  (9, .putfield 11, 12, 12, 0, 0, 157, .null, []),
  (12, .aload_n 0, 13, 0, 0, 0, 0, .null, []),
  (13, .iconst 0, 14, 0, 0, 0, 0, .int (nI 0), []),
  (14, .putfield 17, 17, 12, 1, 0, 158, .int 0, []),
  (17, .iconst 0, 18, 0, 0, 0, 0, .int (nI 0), []),
  (18, .istore_n 1, 19, 0, 0, 0, 0, .null, []),
  (19, .iload_n 1, 20, 0, 0, 0, 0, .null, []),
  (20, .aload_n 0, 21, 0, 0, 0, 0, .null, []),
  (21, .getfield 11, 24, 12, 0, 0, 157, .null, []),
  (24, .arraylength, 25, 0, 0, 0, 0, .null, []),
  (25, .if_icmp .ge 22, 28, 47, 0, 0, 0, .null, []),
  (28, .aload_n 0, 29, 0, 0, 0, 0, .null, []),
  (29, .getfield 11, 32, 12, 0, 0, 157, .null, []),
  (32, .iload_n 1, 33, 0, 0, 0, 0, .null, []),
  (33, .new 9, 36, 11, 17, 0, 154, .null, []),
  (36, .dup, 37, 0, 0, 0, 0, .null, []),
  (37, .invokespecial 21, 40, 36, 0, 11, 156, .retAddr 1, []),
  (40, .aastore, 41, 0, 0, 0, 0, .null, []),
  (41, .iinc 1 1, 44, 0, 0, 0, 0, .null, []),
  (44, .goto (-25), 47, 19, 0, 0, 0, .null, []),
  (47, .return_, 48, 0, 0, 0, 0, .null, [])]
def cd64 : List En := [(0, .aload_n 0, 1, 0, 0, 0, 0, .null, []),
  (1, .getfield 17, 4, 12, 1, 0, 158, .int 0, []),
  (4, .ifCond .lt 28, 7, 32, 0, 0, 0, .null, []),
  (7, .aload_n 0, 8, 0, 0, 0, 0, .null, []),
  (8, .getfield 17, 11, 12, 1, 0, 158, .int 0, []),
  (11, .aload_n 0, 12, 0, 0, 0, 0, .null, []),
  (12, .getfield 11, 15, 12, 0, 0, 157, .null, []),
  (15, .arraylength, 16, 0, 0, 0, 0, .null, []),
  (16, .if_icmp .ge 16, 19, 32, 0, 0, 0, .null, []),
  (19, .aload_n 1, 20, 0, 0, 0, 0, .null, []),
  (20, .aload_n 0, 21, 0, 0, 0, 0, .null, []),
  (21, .getfield 11, 24, 12, 0, 0, 157, .null, []),
  (24, .aload_n 0, 25, 0, 0, 0, 0, .null, []),
  (25, .getfield 17, 28, 12, 1, 0, 158, .int 0, []),
  (28, .aaload, 29, 0, 0, 0, 0, .null, []),
  (29, .invokestatic 22, 32, 37, 0, 0, 299, .retAddr 2, []),
  (32, .return_, 33, 0, 0, 0, 0, .null, [])]
def cd65 : List En := [(0, .iload_n 1, 1, 0, 0, 0, 0, .null, []),
  (1, .invokestatic 26, 4, 25, 0, 0, 560, .retAddr 1, []),
  (4, .ifCond .ne 25, 7, 29, 0, 0, 0, .null, []),
  (7, .aload_n 0, 8, 0, 0, 0, 0, .null, []),
  (8, .dup, 9, 0, 0, 0, 0, .null, []),
  (9, .getfield 17, 12, 12, 1, 0, 158, .int 0, []),
  (12, .iconst 1, 13, 0, 0, 0, 0, .int (nI 1), []),
  (13, .iadd, 14, 0, 0, 0, 0, .null, []),
  (14, .putfield 17, 17, 12, 1, 0, 158, .int 0, []),
  (17, .aload_n 0, 18, 0, 0, 0, 0, .null, []),
  (18, .getfield 17, 21, 12, 1, 0, 158, .int 0, []),
  (21, .iconst 4, 22, 0, 0, 0, 0, .int (nI 4), []),
  (22, .if_icmp .le 7, 25, 29, 0, 0, 0, .null, []),
  (25, .aload_n 0, 26, 0, 0, 0, 0, .null, []),
  (26, .invokevirtual 30, 29, 66, 2, 12, 561, .retAddr 1, []),
  (29, .iload_n 1, 30, 0, 0, 0, 0, .null, []),
  (30, .ireturn, 31, 0, 0, 0, 0, .int 0, [])]
def cd66 : List En := [(0, .aload_n 0, 1, 0, 0, 0, 0, .null, []),
  (1, .getfield 11, 4, 12, 0, 0, 157, .null, []),
  (4, .iconst 0, 5, 0, 0, 0, 0, .int (nI 0), []),
  (5, .aaload, 6, 0, 0, 0, 0, .null, []),
  (6, .astore_n 1, 7, 0, 0, 0, 0, .null, []),
  (7, .iconst 1, 8, 0, 0, 0, 0, .int (nI 1), []),
  (8, .istore_n 2, 9, 0, 0, 0, 0, .null, []),
  (9, .iload_n 2, 10, 0, 0, 0, 0, .null, []),
  (10, .aload_n 0, 11, 0, 0, 0, 0, .null, []),
  (11, .getfield 11, 14, 12, 0, 0, 157, .null, []),
  (14, .arraylength, 15, 0, 0, 0, 0, .null, []),
  (15, .if_icmp .ge 23, 18, 38, 0, 0, 0, .null, []),
  (18, .aload_n 0, 19, 0, 0, 0, 0, .null, []),
  (19, .getfield 11, 22, 12, 0, 0, 157, .null, []),
  (22, .iload_n 2, 23, 0, 0, 0, 0, .null, []),
  (23, .iconst 1, 24, 0, 0, 0, 0, .int (nI 1), []),
  (24, .isub, 25, 0, 0, 0, 0, .null, []),
  (25, .aload_n 0, 26, 0, 0, 0, 0, .null, []),
  (26, .getfield 11, 29, 12, 0, 0, 157, .null, []),
  (29, .iload_n 2, 30, 0, 0, 0, 0, .null, []),
  (30, .aaload, 31, 0, 0, 0, 0, .null, []),
  (31, .aastore, 32, 0, 0, 0, 0, .null, []),
  (32, .iinc 2 1, 35, 0, 0, 0, 0, .null, []),
  (35, .goto (-26), 38, 9, 0, 0, 0, .null, []),
  (38, .aload_n 0, 39, 0, 0, 0, 0, .null, []),
  (39, .getfield 11, 42, 12, 0, 0, 157, .null, []),
  (42, .aload_n 0, 43, 0, 0, 0, 0, .null, []),
  (43, .getfield 11, 46, 12, 0, 0, 157, .null, []),
  (46, .arraylength, 47, 0, 0, 0, 0, .null, []),
  (47, .iconst 1, 48, 0, 0, 0, 0, .int (nI 1), []),
  (48, .isub, 49, 0, 0, 0, 0, .null, []),
  (49, .aload_n 1, 50, 0, 0, 0, 0, .null, []),
  (50, .aastore, 51, 0, 0, 0, 0, .null, []),
  (51, .aload_n 0, 52, 0, 0, 0, 0, .null, []),
  (52, .dup, 53, 0, 0, 0, 0, .null, []),
  (53, .getfield 17, 56, 12, 1, 0, 158, .int 0, []),
  (56, .iconst 1, 57, 0, 0, 0, 0, .int (nI 1), []),
  (57, .isub, 58, 0, 0, 0, 0, .null, []),
  (58, .putfield 17, 61, 12, 1, 0, 158, .int 0, []),
  (61, .return_, 62, 0, 0, 0, 0, .null, [])]
def cd67 : List En := [(0, .aload_n 0, 1, 0, 0, 0, 0, .null, []),
  (1, .getfield 17, 4, 12, 1, 0, 158, .int 0, []),
  (4, .iconst 1, 5, 0, 0, 0, 0, .int (nI 1), []),
  (5, .if_icmp .lt 15, 8, 20, 0, 0, 0, .null, []),
  (8, .aload_n 0, 9, 0, 0, 0, 0, .null, []),
  (9, .getfield 17, 12, 12, 1, 0, 158, .int 0, []),
  (12, .aload_n 0, 13, 0, 0, 0, 0, .null, []),
  (13, .getfield 11, 16, 12, 0, 0, 157, .null, []),
  (16, .arraylength, 17, 0, 0, 0, 0, .null, []),
  (17, .if_icmp .le 6, 20, 23, 0, 0, 0, .null, []),
  (20, .ldc 33, 22, 0, 0, 0, 298, .int ((-1000000002)), []),
  (22, .ireturn, 23, 0, 0, 0, 0, .int 0, []),
  (23, .aload_n 0, 24, 0, 0, 0, 0, .null, []),
  (24, .dup, 25, 0, 0, 0, 0, .null, []),
  (25, .getfield 17, 28, 12, 1, 0, 158, .int 0, []),
  (28, .iconst 1, 29, 0, 0, 0, 0, .int (nI 1), []),
  (29, .isub, 30, 0, 0, 0, 0, .null, []),
  (30, .putfield 17, 33, 12, 1, 0, 158, .int 0, []),
  (33, .aload_n 0, 34, 0, 0, 0, 0, .null, []),
  (34, .getfield 11, 37, 12, 0, 0, 157, .null, []),
  (37, .aload_n 0, 38, 0, 0, 0, 0, .null, []),
  (38, .getfield 17, 41, 12, 1, 0, 158, .int 0, []),
  (41, .aaload, 42, 0, 0, 0, 0, .null, []),
  (42, .aload_n 1, 43, 0, 0, 0, 0, .null, []),
  (43, .invokestatic 22, 46, 37, 0, 0, 299, .retAddr 2, []),
  (46, .aload_n 0, 47, 0, 0, 0, 0, .null, []),
  (47, .getfield 17, 50, 12, 1, 0, 158, .int 0, []),
  (50, .ireturn, 51, 0, 0, 0, 0, .int 0, [])]
def cd68 : List En := [(0, .aload_n 0, 1, 0, 0, 0, 0, .null, []),
  (1, .invokespecial 3, 4, 900, 0, 0, 205, .null, []),
  (4, .aload_n 0, 5, 0, 0, 0, 0, .null, []),
  (5, .bipush 60, 7, 0, 0, 0, 0, .int (nI 60), []),
  (7, .newarray .char, 9, 0, 0, 0, 0, .null, []),
  (9, .putfield 9, 12, 13, 0, 0, 206, .null, []),
  (12, .aload_n 0, 13, 0, 0, 0, 0, .null, []),
  (13, .iconst 0, 14, 0, 0, 0, 0, .int (nI 0), []),
  (14, .putfield 15, 17, 13, 1, 0, 207, .int 0, []),
  (17, .aload_n 0, 18, 0, 0, 0, 0, .null, []),
  (18, .iconst 0, 19, 0, 0, 0, 0, .int (nI 0), []),
  (19, .putfield 19, 22, 13, 2, 0, 209, .int 0, []),
  (22, .aload_n 0, 23, 0, 0, 0, 0, .null, []),
  (23, .iconst 3, 24, 0, 0, 0, 0, .int (nI 3), []),
  (24, .newarray .int, 26, 0, 0, 0, 0, .null, []),
  (26, .putfield 22, 29, 13, 3, 0, 210, .null, []),
  (29, .aload_n 0, 30, 0, 0, 0, 0, .null, []),
  (30, .iconst 0, 31, 0, 0, 0, 0, .int (nI 0), []),
  (31, .putfield 26, 34, 13, 4, 0, 211, .int 0, []),
  (34, .aload_n 0, 35, 0, 0, 0, 0, .null, []),
  (35, .iconst 0, 36, 0, 0, 0, 0, .int (nI 0), []),
  (36, .putfield 29, 39, 13, 5, 0, 212, .int 0, []),
  (39, .aload_n 0, 40, 0, 0, 0, 0, .null, []),
  (40, .iconst 0, 41, 0, 0, 0, 0, .int (nI 0), []),
  (41, .putfield 32, 44, 13, 6, 0, 214, .int 0, []),
  (44, .aload_n 0, 45, 0, 0, 0, 0, .null, []),
  (45, .iconst 0, 46, 0, 0, 0, 0, .int (nI 0), []),
  (46, .putfield 35, 49, 13, 7, 0, 216, .int 0, []),
  (49, .return_, 50, 0, 0, 0, 0, .null, [])]
def cd69 : List En := [(0, .iload_n 1, 1, 0, 0, 0, 0, .null, []),
  (1, .bipush 32, 3, 0, 0, 0, 0, .int (nI 32), []),
  (3, .bipush 126, 5, 0, 0, 0, 0, .int (nI 126), []),
  (5, .invokestatic 38, 8, 24, 0, 0, 642, .retAddr 3, []),
  (8, .ifCond .ne 6, 11, 14, 0, 0, 0, .null, []),
  (11, .ldc 42, 13, 0, 0, 0, 643, .int ((-1000000001)), []),
  (13, .ireturn, 14, 0, 0, 0, 0, .int 0, []),
  (14, .aload_n 0, 15, 0, 0, 0, 0, .null, []),
  (15, .getfield 15, 18, 13, 1, 0, 207, .int 0, []),
  (18, .ifCond .lt 15, 21, 33, 0, 0, 0, .null, []),
  (21, .aload_n 0, 22, 0, 0, 0, 0, .null, []),
  (22, .getfield 15, 25, 13, 1, 0, 207, .int 0, []),
  (25, .aload_n 0, 26, 0, 0, 0, 0, .null, []),
  (26, .getfield 9, 29, 13, 0, 0, 206, .null, []),
  (29, .arraylength, 30, 0, 0, 0, 0, .null, []),
  (30, .if_icmp .lt 6, 33, 36, 0, 0, 0, .null, []),
  (33, .ldc 43, 35, 0, 0, 0, 644, .int ((-1000000003)), []),
  (35, .ireturn, 36, 0, 0, 0, 0, .int 0, []),
  (36, .aload_n 0, 37, 0, 0, 0, 0, .null, []),
  (37, .getfield 9, 40, 13, 0, 0, 206, .null, []),
  (40, .aload_n 0, 41, 0, 0, 0, 0, .null, []),
  (41, .getfield 15, 44, 13, 1, 0, 207, .int 0, []),
  (44, .iload_n 1, 45, 0, 0, 0, 0, .null, []),
  (45, .i2c, 46, 0, 0, 0, 0, .null, []),
  (46, .castore, 47, 0, 0, 0, 0, .null, []),
  (47, .aload_n 0, 48, 0, 0, 0, 0, .null, []),
  (48, .dup, 49, 0, 0, 0, 0, .null, []),
  (49, .getfield 15, 52, 13, 1, 0, 207, .int 0, []),
  (52, .iconst 1, 53, 0, 0, 0, 0, .int (nI 1), []),
  (53, .iadd, 54, 0, 0, 0, 0, .null, []),
  (54, .putfield 15, 57, 13, 1, 0, 207, .int 0, []),
  (57, .aload_n 0, 58, 0, 0, 0, 0, .null, []),
  (58, .getfield 15, 61, 13, 1, 0, 207, .int 0, []),
  (61, .ireturn, 62, 0, 0, 0, 0, .int 0, [])]
def cd70 : List En := [(0, .aload_n 0, 1, 0, 0, 0, 0, .null, []),
  (1, .getfield 15, 4, 13, 1, 0, 207, .int 0, []),
  (4, .istore_n 1, 5, 0, 0, 0, 0, .null, []),
  (5, .aload_n 0, 6, 0, 0, 0, 0, .null, []),
  (6, .iconst 0, 7, 0, 0, 0, 0, .int (nI 0), []),
  (7, .putfield 15, 10, 13, 1, 0, 207, .int 0, []),
  (10, .iload_n 1, 11, 0, 0, 0, 0, .null, []),
  (11, .ireturn, 12, 0, 0, 0, 0, .int 0, [])]
def cd71 : List En := [(0, .aload_n 0, 1, 0, 0, 0, 0, .null, []),
  (1, .iconst 0, 2, 0, 0, 0, 0, .int (nI 0), []),
  (2, .putfield 29, 5, 13, 5, 0, 212, .int 0, []),
  (5, .iconst 0, 6, 0, 0, 0, 0, .int (nI 0), []),
  (6, .istore_n 3, 7, 0, 0, 0, 0, .null, []),
  (7, .iconst 0, 8, 0, 0, 0, 0, .int (nI 0), []),
  (8, .istore 4, 10, 0, 0, 0, 0, .null, []),
  (10, .iload_n 3, 11, 0, 0, 0, 0, .null, []),
  (11, .aload_n 0, 12, 0, 0, 0, 0, .null, []),
  (12, .getfield 15, 15, 13, 1, 0, 207, .int 0, []),
  (15, .if_icmp .ge 71, 18, 86, 0, 0, 0, .null, []),
  (18, .iload 4, 20, 0, 0, 0, 0, .null, []),
  (20, .bipush 60, 22, 0, 0, 0, 0, .int (nI 60), []),
  (22, .if_icmp .ge 64, 25, 86, 0, 0, 0, .null, []),
  (25, .aload_n 0, 26, 0, 0, 0, 0, .null, []),
  (26, .iload_n 3, 27, 0, 0, 0, 0, .null, []),
  (27, .invokevirtual 44, 30, 74, 2, 13, 659, .retAddr 2, []),
  (30, .ifCond .ne 18, 33, 48, 0, 0, 0, .null, []),
  (33, .aload_n 0, 34, 0, 0, 0, 0, .null, []),
  (34, .iload_n 3, 35, 0, 0, 0, 0, .null, []),
  (35, .iconst 1, 36, 0, 0, 0, 0, .int (nI 1), []),
  (36, .aload_n 0, 37, 0, 0, 0, 0, .null, []),
  (37, .getfield 26, 40, 13, 4, 0, 211, .int 0, []),
  (40, .iload_n 3, 41, 0, 0, 0, 0, .null, []),
  (41, .isub, 42, 0, 0, 0, 0, .null, []),
  (42, .invokevirtual 48, 45, 72, 0, 13, 678, .retAddr 4, []),
  (45, .iload 4, 47, 0, 0, 0, 0, .null, []),
  (47, .ireturn, 48, 0, 0, 0, 0, .int 0, []),
  (48, .aload_n 0, 49, 0, 0, 0, 0, .null, []),
  (49, .aload_n 1, 50, 0, 0, 0, 0, .null, []),
  (50, .aload_n 2, 51, 0, 0, 0, 0, .null, []),
  (51, .invokevirtual 52, 54, 73, 0, 13, 682, .retAddr 3, []),
  (54, .istore 5, 56, 0, 0, 0, 0, .null, []),
  (56, .iload 5, 58, 0, 0, 0, 0, .null, []),
  (58, .invokestatic 56, 61, 25, 0, 0, 691, .retAddr 1, []),
  (61, .ifCond .eq 14, 64, 75, 0, 0, 0, .null, []),
  (64, .aload_n 0, 65, 0, 0, 0, 0, .null, []),
  (65, .iload_n 3, 66, 0, 0, 0, 0, .null, []),
  (66, .iconst 2, 67, 0, 0, 0, 0, .int (nI 2), []),
  (67, .iload 5, 69, 0, 0, 0, 0, .null, []),
  (69, .invokevirtual 48, 72, 72, 0, 13, 678, .retAddr 4, []),
  (72, .iload 4, 74, 0, 0, 0, 0, .null, []),
  (74, .ireturn, 75, 0, 0, 0, 0, .int 0, []),
  (75, .iinc 4 1, 78, 0, 0, 0, 0, .null, []),
  (78, .aload_n 0, 79, 0, 0, 0, 0, .null, []),
  (79, .getfield 26, 82, 13, 4, 0, 211, .int 0, []),
  (82, .istore_n 3, 83, 0, 0, 0, 0, .null, []),
  (83, .goto (-73), 86, 10, 0, 0, 0, .null, []),
  (86, .iload 4, 88, 0, 0, 0, 0, .null, []),
  (88, .ireturn, 89, 0, 0, 0, 0, .int 0, [])]
def cd72 : List En := [(0, .aload_n 0, 1, 0, 0, 0, 0, .null, []),
  (1, .iload_n 1, 2, 0, 0, 0, 0, .null, []),
  (2, .putfield 32, 5, 13, 6, 0, 214, .int 0, []),
  (5, .aload_n 0, 6, 0, 0, 0, 0, .null, []),
  (6, .iload_n 2, 7, 0, 0, 0, 0, .null, []),
  (7, .putfield 29, 10, 13, 5, 0, 212, .int 0, []),
  (10, .aload_n 0, 11, 0, 0, 0, 0, .null, []),
  (11, .iload_n 3, 12, 0, 0, 0, 0, .null, []),
  (12, .putfield 35, 15, 13, 7, 0, 216, .int 0, []),
  (15, .return_, 16, 0, 0, 0, 0, .null, [])]
def cd73 : List En := [(0, .aload_n 0, 1, 0, 0, 0, 0, .null, []),
  (1, .getfield 19, 4, 13, 2, 0, 209, .int 0, []),
  (4, .lookupswitch 127 #[(99, 75), (102, 99), (111, 87), (112, 52), (115, 110)], 56, 131, 0, 0, 0, .null, [(nI 99, 79), (nI 102, 103), (nI 111, 91), (nI 112, 56), (nI 115, 114)]),
  (56, .aload_n 1, 57, 0, 0, 0, 0, .null, []),
  (57, .aload_n 0, 58, 0, 0, 0, 0, .null, []),
  (58, .getfield 22, 61, 13, 3, 0, 210, .null, []),
  (61, .iconst 0, 62, 0, 0, 0, 0, .int (nI 0), []),
  (62, .iaload, 63, 0, 0, 0, 0, .null, []),
  (63, .aload_n 0, 64, 0, 0, 0, 0, .null, []),
  (64, .getfield 22, 67, 13, 3, 0, 210, .null, []),
  (67, .iconst 1, 68, 0, 0, 0, 0, .int (nI 1), []),
  (68, .iaload, 69, 0, 0, 0, 0, .null, []),
  (69, .aload_n 0, 70, 0, 0, 0, 0, .null, []),
  (70, .getfield 22, 73, 13, 3, 0, 210, .null, []),
  (73, .iconst 2, 74, 0, 0, 0, 0, .int (nI 2), []),
  (74, .iaload, 75, 0, 0, 0, 0, .null, []),
  (75, .invokevirtual 59, 78, 53, 1, 11, 686, .retAddr 4, []),
  (78, .ireturn, 79, 0, 0, 0, 0, .int 0, []),
  (79, .aload_n 1, 80, 0, 0, 0, 0, .null, []),
  (80, .aload_n 0, 81, 0, 0, 0, 0, .null, []),
  (81, .getfield 22, 84, 13, 3, 0, 210, .null, []),
  (84, .iconst 0, 85, 0, 0, 0, 0, .int (nI 0), []),
  (85, .iaload, 86, 0, 0, 0, 0, .null, []),
  (86, .iconst 1, 87, 0, 0, 0, 0, .int (nI 1), []),
  (87, .invokevirtual 65, 90, 54, 0, 11, 687, .retAddr 3, []),
  (90, .ireturn, 91, 0, 0, 0, 0, .int 0, []),
  (91, .aload_n 1, 92, 0, 0, 0, 0, .null, []),
  (92, .aload_n 0, 93, 0, 0, 0, 0, .null, []),
  (93, .getfield 22, 96, 13, 3, 0, 210, .null, []),
  (96, .iconst 0, 97, 0, 0, 0, 0, .int (nI 0), []),
  (97, .iaload, 98, 0, 0, 0, 0, .null, []),
  (98, .iconst 0, 99, 0, 0, 0, 0, .int (nI 0), []),
  (99, .invokevirtual 65, 102, 54, 0, 11, 687, .retAddr 3, []),
  (102, .ireturn, 103, 0, 0, 0, 0, .int 0, []),
  (103, .aload_n 1, 104, 0, 0, 0, 0, .null, []),
  (104, .aload_n 0, 105, 0, 0, 0, 0, .null, []),
  (105, .getfield 22, 108, 13, 3, 0, 210, .null, []),
  (108, .iconst 0, 109, 0, 0, 0, 0, .int (nI 0), []),
  (109, .iaload, 110, 0, 0, 0, 0, .null, []),
  (110, .invokevirtual 69, 113, 55, 1, 11, 688, .retAddr 2, []),
  (113, .ireturn, 114, 0, 0, 0, 0, .int 0, []),
  (114, .aload_n 1, 115, 0, 0, 0, 0, .null, []),
  (115, .aload_n 0, 116, 0, 0, 0, 0, .null, []),
  (116, .getfield 22, 119, 13, 3, 0, 210, .null, []),
  (119, .iconst 0, 120, 0, 0, 0, 0, .int (nI 0), []),
  (120, .iaload, 121, 0, 0, 0, 0, .null, []),
  (121, .aload_n 0, 122, 0, 0, 0, 0, .null, []),
  (122, .getfield 22, 125, 13, 3, 0, 210, .null, []),
  (125, .iconst 1, 126, 0, 0, 0, 0, .int (nI 1), []),
  (126, .iaload, 127, 0, 0, 0, 0, .null, []),
  (127, .invokevirtual 73, 130, 57, 1, 11, 689, .retAddr 3, []),
  (130, .ireturn, 131, 0, 0, 0, 0, .int 0, []),
  (131, .aload_n 2, 132, 0, 0, 0, 0, .null, []),
  (132, .aload_n 1, 133, 0, 0, 0, 0, .null, []),
  (133, .aload_n 0, 134, 0, 0, 0, 0, .null, []),
  (134, .getfield 22, 137, 13, 3, 0, 210, .null, []),
  (137, .iconst 0, 138, 0, 0, 0, 0, .int (nI 0), []),
  (138, .iaload, 139, 0, 0, 0, 0, .null, []),
  (139, .invokevirtual 77, 142, 30, 5, 10, 690, .retAddr 3, []),
  (142, .ireturn, 143, 0, 0, 0, 0, .int 0, [])]
def cd74 : List En := [(0, .aload_n 0, 1, 0, 0, 0, 0, .null, []),
  (1, .iload_n 1, 2, 0, 0, 0, 0, .null, []),
  (2, .putfield 26, 5, 13, 4, 0, 211, .int 0, []),
  (5, .aload_n 0, 6, 0, 0, 0, 0, .null, []),
  (6, .aload_n 0, 7, 0, 0, 0, 0, .null, []),
  (7, .invokevirtual 83, 10, 76, 0, 13, 663, .retAddr 1, []),
  (10, .putfield 19, 13, 13, 2, 0, 209, .int 0, []),
  (13, .aload_n 0, 14, 0, 0, 0, 0, .null, []),
  (14, .getfield 19, 17, 13, 2, 0, 209, .int 0, []),
  (17, .invokestatic 87, 20, 75, 0, 0, 667, .retAddr 1, []),
  (20, .istore_n 2, 21, 0, 0, 0, 0, .null, []),
  (21, .iload_n 2, 22, 0, 0, 0, 0, .null, []),
  (22, .ifCond .ne 5, 25, 27, 0, 0, 0, .null, []),
  (25, .iconst 0, 26, 0, 0, 0, 0, .int (nI 0), []),
  (26, .ireturn, 27, 0, 0, 0, 0, .int 1, []),
  (27, .aload_n 0, 28, 0, 0, 0, 0, .null, []),
  (28, .dup, 29, 0, 0, 0, 0, .null, []),
  (29, .getfield 26, 32, 13, 4, 0, 211, .int 0, []),
  (32, .iconst 1, 33, 0, 0, 0, 0, .int (nI 1), []),
  (33, .iadd, 34, 0, 0, 0, 0, .null, []),
  (34, .putfield 26, 37, 13, 4, 0, 211, .int 0, []),
  (37, .iconst 0, 38, 0, 0, 0, 0, .int (nI 0), []),
  (38, .istore_n 3, 39, 0, 0, 0, 0, .null, []),
  (39, .iload_n 3, 40, 0, 0, 0, 0, .null, []),
  (40, .iload_n 2, 41, 0, 0, 0, 0, .null, []),
  (41, .if_icmp .ge 34, 44, 75, 0, 0, 0, .null, []),
  (44, .iload_n 3, 45, 0, 0, 0, 0, .null, []),
  (45, .ifCond .le 14, 48, 59, 0, 0, 0, .null, []),
  (48, .aload_n 0, 49, 0, 0, 0, 0, .null, []),
  (49, .bipush 44, 51, 0, 0, 0, 0, .int (nI 44), []),
  (51, .invokevirtual 90, 54, 77, 0, 13, 670, .retAddr 2, []),
  (54, .ifCond .ne 5, 57, 59, 0, 0, 0, .null, []),
  (57, .iconst 0, 58, 0, 0, 0, 0, .int (nI 0), []),
  (58, .ireturn, 59, 0, 0, 0, 0, .int 1, []),
  (59, .aload_n 0, 60, 0, 0, 0, 0, .null, []),
  (60, .iload_n 3, 61, 0, 0, 0, 0, .null, []),
  (61, .invokevirtual 94, 64, 78, 2, 13, 674, .retAddr 2, []),
  (64, .ifCond .ne 5, 67, 69, 0, 0, 0, .null, []),
  (67, .iconst 0, 68, 0, 0, 0, 0, .int (nI 0), []),
  (68, .ireturn, 69, 0, 0, 0, 0, .int 1, []),
  (69, .iinc 3 1, 72, 0, 0, 0, 0, .null, []),
  (72, .goto (-33), 75, 39, 0, 0, 0, .null, []),
  (75, .aload_n 0, 76, 0, 0, 0, 0, .null, []),
  (76, .bipush 59, 78, 0, 0, 0, 0, .int (nI 59), []),
  (78, .invokevirtual 90, 81, 77, 0, 13, 670, .retAddr 2, []),
  (81, .ireturn, 82, 0, 0, 0, 0, .int 1, [])]
def cd75 : List En := [(0, .iload_n 0, 1, 0, 0, 0, 0, .null, []),
  (1, .tableswitch 89 99 115 #[87, 89, 89, 87, 89, 89, 89, 89, 89, 87, 89, 89, 87, 83, 89, 89, 85], 84, 90, 0, 0, 0, .null, [(nI 99, 88), (nI 100, 90), (nI 101, 90), (nI 102, 88), (nI 103, 90), (nI 104, 90), (nI 105, 90), (nI 106, 90), (nI 107, 90), (nI 108, 88), (nI 109, 90), (nI 110, 90), (nI 111, 88), (nI 112, 84), (nI 113, 90), (nI 114, 90), (nI 115, 86)]),
  (84, .iconst 3, 85, 0, 0, 0, 0, .int (nI 3), []),
  (85, .ireturn, 86, 0, 0, 0, 0, .int 0, []),
  (86, .iconst 2, 87, 0, 0, 0, 0, .int (nI 2), []),
  (87, .ireturn, 88, 0, 0, 0, 0, .int 0, []),
  (88, .iconst 1, 89, 0, 0, 0, 0, .int (nI 1), []),
  (89, .ireturn, 90, 0, 0, 0, 0, .int 0, []),
  (90, .iconst 0, 91, 0, 0, 0, 0, .int (nI 0), []),
  (91, .ireturn, 92, 0, 0, 0, 0, .int 0, [])]
def cd76 : List En := [(0, .aload_n 0, 1, 0, 0, 0, 0, .null, []),
  (1, .getfield 26, 4, 13, 4, 0, 211, .int 0, []),
  (4, .ifCond .lt 38, 7, 42, 0, 0, 0, .null, []),
  (7, .aload_n 0, 8, 0, 0, 0, 0, .null, []),
  (8, .getfield 26, 11, 13, 4, 0, 211, .int 0, []),
  (11, .aload_n 0, 12, 0, 0, 0, 0, .null, []),
  (12, .getfield 15, 15, 13, 1, 0, 207, .int 0, []),
  (15, .if_icmp .ge 27, 18, 42, 0, 0, 0, .null, []),
  (18, .aload_n 0, 19, 0, 0, 0, 0, .null, []),
  (19, .getfield 26, 22, 13, 4, 0, 211, .int 0, []),
  (22, .aload_n 0, 23, 0, 0, 0, 0, .null, []),
  (23, .getfield 9, 26, 13, 0, 0, 206, .null, []),
  (26, .arraylength, 27, 0, 0, 0, 0, .null, []),
  (27, .if_icmp .ge 15, 30, 42, 0, 0, 0, .null, []),
  (30, .aload_n 0, 31, 0, 0, 0, 0, .null, []),
  (31, .getfield 9, 34, 13, 0, 0, 206, .null, []),
  (34, .aload_n 0, 35, 0, 0, 0, 0, .null, []),
  (35, .getfield 26, 38, 13, 4, 0, 211, .int 0, []),
  (38, .caload, 39, 0, 0, 0, 0, .null, []),
  (39, .goto 4, 42, 43, 0, 0, 0, .null, []),
  (42, .iconst 0, 43, 0, 0, 0, 0, .int (nI 0), []),
  (43, .ireturn, 44, 0, 0, 0, 0, .int 2, [])]
def cd77 : List En := [(0, .aload_n 0, 1, 0, 0, 0, 0, .null, []),
  (1, .invokevirtual 83, 4, 76, 0, 13, 663, .retAddr 1, []),
  (4, .iload_n 1, 5, 0, 0, 0, 0, .null, []),
  (5, .if_icmp .eq 5, 8, 10, 0, 0, 0, .null, []),
  (8, .iconst 0, 9, 0, 0, 0, 0, .int (nI 0), []),
  (9, .ireturn, 10, 0, 0, 0, 0, .int 1, []),
  (10, .aload_n 0, 11, 0, 0, 0, 0, .null, []),
  (11, .dup, 12, 0, 0, 0, 0, .null, []),
  (12, .getfield 26, 15, 13, 4, 0, 211, .int 0, []),
  (15, .iconst 1, 16, 0, 0, 0, 0, .int (nI 1), []),
  (16, .iadd, 17, 0, 0, 0, 0, .null, []),
  (17, .putfield 26, 20, 13, 4, 0, 211, .int 0, []),
  (20, .iconst 1, 21, 0, 0, 0, 0, .int (nI 1), []),
  (21, .ireturn, 22, 0, 0, 0, 0, .int 1, [])]
def cd78 : List En := [(0, .iconst 0, 1, 0, 0, 0, 0, .int (nI 0), []),
  (1, .istore_n 2, 2, 0, 0, 0, 0, .null, []),
  (2, .iconst 0, 3, 0, 0, 0, 0, .int (nI 0), []),
  (3, .istore_n 3, 4, 0, 0, 0, 0, .null, []),
  (4, .iload_n 3, 5, 0, 0, 0, 0, .null, []),
  (5, .iconst 4, 6, 0, 0, 0, 0, .int (nI 4), []),
  (6, .if_icmp .ge 50, 9, 56, 0, 0, 0, .null, []),
  (9, .aload_n 0, 10, 0, 0, 0, 0, .null, []),
  (10, .invokevirtual 83, 13, 76, 0, 13, 663, .retAddr 1, []),
  (13, .bipush 48, 15, 0, 0, 0, 0, .int (nI 48), []),
  (15, .if_icmp .lt 41, 18, 56, 0, 0, 0, .null, []),
  (18, .aload_n 0, 19, 0, 0, 0, 0, .null, []),
  (19, .invokevirtual 83, 22, 76, 0, 13, 663, .retAddr 1, []),
  (22, .bipush 57, 24, 0, 0, 0, 0, .int (nI 57), []),
  (24, .if_icmp .gt 32, 27, 56, 0, 0, 0, .null, []),
  (27, .iload_n 2, 28, 0, 0, 0, 0, .null, []),
  (28, .bipush 10, 30, 0, 0, 0, 0, .int (nI 10), []),
  (30, .imul, 31, 0, 0, 0, 0, .null, []),
  (31, .aload_n 0, 32, 0, 0, 0, 0, .null, []),
  (32, .invokevirtual 83, 35, 76, 0, 13, 663, .retAddr 1, []),
  (35, .bipush 48, 37, 0, 0, 0, 0, .int (nI 48), []),
  (37, .isub, 38, 0, 0, 0, 0, .null, []),
  (38, .iadd, 39, 0, 0, 0, 0, .null, []),
  (39, .istore_n 2, 40, 0, 0, 0, 0, .null, []),
  (40, .iinc 3 1, 43, 0, 0, 0, 0, .null, []),
  (43, .aload_n 0, 44, 0, 0, 0, 0, .null, []),
  (44, .dup, 45, 0, 0, 0, 0, .null, []),
  (45, .getfield 26, 48, 13, 4, 0, 211, .int 0, []),
  (48, .iconst 1, 49, 0, 0, 0, 0, .int (nI 1), []),
  (49, .iadd, 50, 0, 0, 0, 0, .null, []),
  (50, .putfield 26, 53, 13, 4, 0, 211, .int 0, []),
  (53, .goto (-49), 56, 4, 0, 0, 0, .null, []),
  (56, .iload_n 1, 57, 0, 0, 0, 0, .null, []),
  (57, .ifCond .lt 19, 60, 76, 0, 0, 0, .null, []),
  (60, .iload_n 1, 61, 0, 0, 0, 0, .null, []),
  (61, .aload_n 0, 62, 0, 0, 0, 0, .null, []),
  (62, .getfield 22, 65, 13, 3, 0, 210, .null, []),
  (65, .arraylength, 66, 0, 0, 0, 0, .null, []),
  (66, .if_icmp .ge 10, 69, 76, 0, 0, 0, .null, []),
  (69, .aload_n 0, 70, 0, 0, 0, 0, .null, []),
  (70, .getfield 22, 73, 13, 3, 0, 210, .null, []),
  (73, .iload_n 1, 74, 0, 0, 0, 0, .null, []),
  (74, .iload_n 2, 75, 0, 0, 0, 0, .null, []),
  (75, .iastore, 76, 0, 0, 0, 0, .null, []),
  (76, .iload_n 3, 77, 0, 0, 0, 0, .null, []),
  (77, .ifCond .le 7, 80, 84, 0, 0, 0, .null, []),
  (80, .iconst 1, 81, 0, 0, 0, 0, .int (nI 1), []),
  (81, .goto 4, 84, 85, 0, 0, 0, .null, []),
  (84, .iconst 0, 85, 0, 0, 0, 0, .int (nI 0), []),
  (85, .ireturn, 86, 0, 0, 0, 0, .int 1, [])]
def cd79 : List En := [(0, .aload_n 0, 1, 0, 0, 0, 0, .null, []),
  (1, .invokespecial 3, 4, 900, 0, 0, 189, .null, []),
  (4, .aload_n 0, 5, 0, 0, 0, 0, .null, []),
  (5, .bipush 10, 7, 0, 0, 0, 0, .int (nI 10), []),
  (7, .newarray .int, 9, 0, 0, 0, 0, .null, []),
  (9, .putfield 9, 12, 14, 0, 0, 192, .null, []),
  (12, .aload_n 0, 13, 0, 0, 0, 0, .null, []),
  (13, .new 15, 16, 15, 5, 0, 190, .null, []),
  (16, .dup, 17, 0, 0, 0, 0, .null, []),
  (17, .invokespecial 17, 20, 85, 0, 15, 191, .retAddr 1, []),
  (20, .putfield 18, 23, 14, 1, 0, 193, .null, []),
  (23, .return_, 24, 0, 0, 0, 0, .null, [])]
def cd80_0 : List En := [(0, .aload_n 1, 1, 0, 0, 0, 0, .null, []),
  (1, .iload_n 2, 2, 0, 0, 0, 0, .null, []),
  (2, .invokevirtual 22, 5, 38, 0, 11, 356, .retAddr 2, []),
  (5, .ifCond .ne 6, 8, 11, 0, 0, 0, .null, []),
  (8, .ldc 28, 10, 0, 0, 0, 357, .int ((-1000000004)), []),
  (10, .ireturn, 11, 0, 0, 0, 0, .int 0, []),
  (11, .iconst 0, 12, 0, 0, 0, 0, .int (nI 0), []),
  (12, .istore_n 3, 13, 0, 0, 0, 0, .null, []),
  (13, .iload_n 3, 14, 0, 0, 0, 0, .null, []),
  (14, .aload_n 0, 15, 0, 0, 0, 0, .null, []),
  (15, .getfield 9, 18, 14, 0, 0, 192, .null, []),
  (18, .arraylength, 19, 0, 0, 0, 0, .null, []),
  (19, .if_icmp .ge 25, 22, 44, 0, 0, 0, .null, []),
  (22, .aload_n 0, 23, 0, 0, 0, 0, .null, []),
  (23, .getfield 9, 26, 14, 0, 0, 192, .null, []),
  (26, .iload_n 3, 27, 0, 0, 0, 0, .null, []),
  (27, .iload_n 3, 28, 0, 0, 0, 0, .null, []),
  (28, .ifCond .ne 7, 31, 35, 0, 0, 0, .null, []),
  (31, .iconst 0, 32, 0, 0, 0, 0, .int (nI 0), []),
  (32, .goto 5, 35, 37, 0, 0, 0, .null, []),
  (35, .ldc 29, 37, 0, 0, 0, 358, .int (nI 1000000), []),
  (37, .iastore, 38, 0, 0, 0, 0, .null, []),
  (38, .iinc 3 1, 41, 0, 0, 0, 0, .null, []),
  (41, .goto (-28), 44, 13, 0, 0, 0, .null, []),
  (44, .iconst 1, 45, 0, 0, 0, 0, .int (nI 1), []),
  (45, .istore_n 3, 46, 0, 0, 0, 0, .null, []),
  (46, .iload_n 3, 47, 0, 0, 0, 0, .null, []),
  (47, .aload_n 1, 48, 0, 0, 0, 0, .null, []),
  (48, .getfield 30, 51, 11, 0, 1, 71, .int 0, []),
  (51, .if_icmp .ge 34, 54, 85, 0, 0, 0, .null, []),
  (54, .iconst 0, 55, 0, 0, 0, 0, .int (nI 0), []),
  (55, .istore 4, 57, 0, 0, 0, 0, .null, []),
  (57, .iload 4, 59, 0, 0, 0, 0, .null, []),
  (59, .aload_n 1, 60, 0, 0, 0, 0, .null, []),
  (60, .getfield 34, 63, 11, 3, 1, 78, .int 0, []),
  (63, .if_icmp .ge 16, 66, 79, 0, 0, 0, .null, []),
  (66, .aload_n 0, 67, 0, 0, 0, 0, .null, []),
  (67, .aload_n 1, 68, 0, 0, 0, 0, .null, []),
  (68, .iload 4, 70, 0, 0, 0, 0, .null, []),
  (70, .invokevirtual 37, 73, 81, 2, 14, 359, .retAddr 3, []),
  (73, .iinc 4 1, 76, 0, 0, 0, 0, .null, []),
  (76, .goto (-19), 79, 57, 0, 0, 0, .null, []),
  (79, .iinc 3 1, 82, 0, 0, 0, 0, .null, []),
  (82, .goto (-36), 85, 46, 0, 0, 0, .null, []),
  (85, .iload_n 2, 86, 0, 0, 0, 0, .null, []),
  (86, .aload_n 0, 87, 0, 0, 0, 0, .null, []),
  (87, .getfield 9, 90, 14, 0, 0, 192, .null, []),
  (90, .arraylength, 91, 0, 0, 0, 0, .null, []),
  (91, .if_icmp .ge 23, 94, 114, 0, 0, 0, .null, []),
  (94, .aload_n 0, 95, 0, 0, 0, 0, .null, [])]
def cd80_1 : List En := [(95, .getfield 9, 98, 14, 0, 0, 192, .null, []),
  (98, .iload_n 2, 99, 0, 0, 0, 0, .null, []),
  (99, .iaload, 100, 0, 0, 0, 0, .null, []),
  (100, .ldc 29, 102, 0, 0, 0, 358, .int (nI 1000000), []),
  (102, .if_icmp .ge 12, 105, 114, 0, 0, 0, .null, []),
  (105, .aload_n 0, 106, 0, 0, 0, 0, .null, []),
  (106, .getfield 9, 109, 14, 0, 0, 192, .null, []),
  (109, .iload_n 2, 110, 0, 0, 0, 0, .null, []),
  (110, .iaload, 111, 0, 0, 0, 0, .null, []),
  (111, .goto 5, 114, 116, 0, 0, 0, .null, []),
  (114, .ldc 28, 116, 0, 0, 0, 357, .int ((-1000000004)), []),
  (116, .ireturn, 117, 0, 0, 0, 0, .int 0, [])]
def cd80 : List En := cd80_0 ++ (cd80_1)
def cd81_0 : List En := [(0, .aload_n 1, 1, 0, 0, 0, 0, .null, []),
  (1, .iload_n 2, 2, 0, 0, 0, 0, .null, []),
  (2, .invokevirtual 41, 5, 39, 0, 11, 363, .retAddr 2, []),
  (5, .ifCond .eq 11, 8, 16, 0, 0, 0, .null, []),
  (8, .aload_n 1, 9, 0, 0, 0, 0, .null, []),
  (9, .iload_n 2, 10, 0, 0, 0, 0, .null, []),
  (10, .invokevirtual 44, 13, 42, 0, 11, 364, .retAddr 2, []),
  (13, .ifCond .eq 4, 16, 17, 0, 0, 0, .null, []),
  (16, .return_, 17, 0, 0, 0, 0, .null, []),
  (17, .aload_n 1, 18, 0, 0, 0, 0, .null, []),
  (18, .getfield 47, 21, 11, 4, 1, 82, .null, []),
  (21, .iload_n 2, 22, 0, 0, 0, 0, .null, []),
  (22, .iaload, 23, 0, 0, 0, 0, .null, []),
  (23, .istore_n 3, 24, 0, 0, 0, 0, .null, []),
  (24, .aload_n 1, 25, 0, 0, 0, 0, .null, []),
  (25, .getfield 50, 28, 11, 5, 1, 85, .null, []),
  (28, .iload_n 2, 29, 0, 0, 0, 0, .null, []),
  (29, .iaload, 30, 0, 0, 0, 0, .null, []),
  (30, .istore 4, 32, 0, 0, 0, 0, .null, []),
  (32, .iload_n 3, 33, 0, 0, 0, 0, .null, []),
  (33, .iconst 0, 34, 0, 0, 0, 0, .int (nI 0), []),
  (34, .aload_n 0, 35, 0, 0, 0, 0, .null, []),
  (35, .getfield 9, 38, 14, 0, 0, 192, .null, []),
  (38, .arraylength, 39, 0, 0, 0, 0, .null, []),
  (39, .iconst 1, 40, 0, 0, 0, 0, .int (nI 1), []),
  (40, .isub, 41, 0, 0, 0, 0, .null, []),
  (41, .invokestatic 53, 44, 24, 0, 0, 365, .retAddr 3, []),
  (44, .ifCond .eq 78, 47, 122, 0, 0, 0, .null, []),
  (47, .iload 4, 49, 0, 0, 0, 0, .null, []),
  (49, .iconst 0, 50, 0, 0, 0, 0, .int (nI 0), []),
  (50, .aload_n 0, 51, 0, 0, 0, 0, .null, []),
  (51, .getfield 9, 54, 14, 0, 0, 192, .null, []),
  (54, .arraylength, 55, 0, 0, 0, 0, .null, []),
  (55, .iconst 1, 56, 0, 0, 0, 0, .int (nI 1), []),
  (56, .isub, 57, 0, 0, 0, 0, .null, []),
  (57, .invokestatic 53, 60, 24, 0, 0, 365, .retAddr 3, []),
  (60, .ifCond .eq 62, 63, 122, 0, 0, 0, .null, []),
  (63, .aload_n 0, 64, 0, 0, 0, 0, .null, []),
  (64, .getfield 9, 67, 14, 0, 0, 192, .null, []),
  (67, .iload_n 3, 68, 0, 0, 0, 0, .null, []),
  (68, .aload_n 0, 69, 0, 0, 0, 0, .null, []),
  (69, .getfield 9, 72, 14, 0, 0, 192, .null, []),
  (72, .iload_n 3, 73, 0, 0, 0, 0, .null, []),
  (73, .iaload, 74, 0, 0, 0, 0, .null, []),
  (74, .aload_n 0, 75, 0, 0, 0, 0, .null, []),
  (75, .getfield 9, 78, 14, 0, 0, 192, .null, []),
  (78, .iload 4, 80, 0, 0, 0, 0, .null, []),
  (80, .iaload, 81, 0, 0, 0, 0, .null, []),
  (81, .aload_n 1, 82, 0, 0, 0, 0, .null, []),
  (82, .getfield 57, 85, 11, 6, 1, 88, .null, [])]
def cd81_1 : List En := [(85, .iload_n 2, 86, 0, 0, 0, 0, .null, []),
  (86, .iaload, 87, 0, 0, 0, 0, .null, []),
  (87, .iadd, 88, 0, 0, 0, 0, .null, []),
  (88, .invokestatic 60, 91, 902, 0, 2, 366, .null, []),
  (91, .iastore, 92, 0, 0, 0, 0, .null, []),
  (92, .aload_n 0, 93, 0, 0, 0, 0, .null, []),
  (93, .getfield 9, 96, 14, 0, 0, 192, .null, []),
  (96, .iload 4, 98, 0, 0, 0, 0, .null, []),
  (98, .aload_n 0, 99, 0, 0, 0, 0, .null, []),
  (99, .getfield 9, 102, 14, 0, 0, 192, .null, []),
  (102, .iload 4, 104, 0, 0, 0, 0, .null, []),
  (104, .iaload, 105, 0, 0, 0, 0, .null, []),
  (105, .aload_n 0, 106, 0, 0, 0, 0, .null, []),
  (106, .getfield 9, 109, 14, 0, 0, 192, .null, []),
  (109, .iload_n 3, 110, 0, 0, 0, 0, .null, []),
  (110, .iaload, 111, 0, 0, 0, 0, .null, []),
  (111, .aload_n 1, 112, 0, 0, 0, 0, .null, []),
  (112, .getfield 57, 115, 11, 6, 1, 88, .null, []),
  (115, .iload_n 2, 116, 0, 0, 0, 0, .null, []),
  (116, .iaload, 117, 0, 0, 0, 0, .null, []),
  (117, .iadd, 118, 0, 0, 0, 0, .null, []),
  (118, .invokestatic 60, 121, 902, 0, 2, 366, .null, []),
  (121, .iastore, 122, 0, 0, 0, 0, .null, []),
  (122, .return_, 123, 0, 0, 0, 0, .null, [])]
def cd81 : List En := cd81_0 ++ (cd81_1)
def cd82 : List En := [(0, .aload_n 0, 1, 0, 0, 0, 0, .null, []),
  (1, .getfield 18, 4, 14, 1, 0, 193, .null, []),
  (4, .invokevirtual 66, 7, 86, 0, 15, 523, .retAddr 1, []),
  (7, .iconst 0, 8, 0, 0, 0, 0, .int (nI 0), []),
  (8, .istore_n 2, 9, 0, 0, 0, 0, .null, []),
  (9, .iload_n 2, 10, 0, 0, 0, 0, .null, []),
  (10, .bipush 10, 12, 0, 0, 0, 0, .int (nI 10), []),
  (12, .if_icmp .ge 60, 15, 72, 0, 0, 0, .null, []),
  (15, .aload_n 0, 16, 0, 0, 0, 0, .null, []),
  (16, .getfield 18, 19, 14, 1, 0, 193, .null, []),
  (19, .invokevirtual 69, 22, 89, 0, 15, 524, .retAddr 1, []),
  (22, .aload_n 1, 23, 0, 0, 0, 0, .null, []),
  (23, .getfield 73, 26, 11, 10, 1, 97, .int 0, []),
  (26, .if_icmp .eq 46, 29, 72, 0, 0, 0, .null, []),
  (29, .aload_n 0, 30, 0, 0, 0, 0, .null, []),
  (30, .aload_n 1, 31, 0, 0, 0, 0, .null, []),
  (31, .invokevirtual 76, 34, 83, 4, 14, 525, .retAddr 2, []),
  (34, .istore_n 3, 35, 0, 0, 0, 0, .null, []),
  (35, .iload_n 3, 36, 0, 0, 0, 0, .null, []),
  (36, .iconst (-1), 37, 0, 0, 0, 0, .int ((-1)), []),
  (37, .if_icmp .ne 4, 40, 41, 0, 0, 0, .null, []),
  (40, .return_, 41, 0, 0, 0, 0, .null, []),
  (41, .aload_n 0, 42, 0, 0, 0, 0, .null, []),
  (42, .getfield 18, 45, 14, 1, 0, 193, .null, []),
  (45, .iload_n 3, 46, 0, 0, 0, 0, .null, []),
  (46, .aload_n 1, 47, 0, 0, 0, 0, .null, []),
  (47, .iload_n 3, 48, 0, 0, 0, 0, .null, []),
  (48, .aload_n 0, 49, 0, 0, 0, 0, .null, []),
  (49, .getfield 18, 52, 14, 1, 0, 193, .null, []),
  (52, .invokevirtual 69, 55, 89, 0, 15, 524, .retAddr 1, []),
  (55, .invokevirtual 80, 58, 46, 0, 11, 529, .retAddr 3, []),
  (58, .aload_n 1, 59, 0, 0, 0, 0, .null, []),
  (59, .iload_n 3, 60, 0, 0, 0, 0, .null, []),
  (60, .invokevirtual 83, 63, 44, 0, 11, 534, .retAddr 2, []),
  (63, .invokevirtual 87, 66, 87, 0, 15, 535, .retAddr 4, []),
  (66, .iinc 2 1, 69, 0, 0, 0, 0, .null, []),
  (69, .goto (-60), 72, 9, 0, 0, 0, .null, []),
  (72, .return_, 73, 0, 0, 0, 0, .null, [])]
def cd83 : List En := [(0, .aload_n 0, 1, 0, 0, 0, 0, .null, []),
  (1, .getfield 18, 4, 14, 1, 0, 193, .null, []),
  (4, .invokevirtual 69, 7, 89, 0, 15, 524, .retAddr 1, []),
  (7, .istore_n 2, 8, 0, 0, 0, 0, .null, []),
  (8, .iconst (-1), 9, 0, 0, 0, 0, .int ((-1)), []),
  (9, .istore_n 3, 10, 0, 0, 0, 0, .null, []),
  (10, .iconst 0, 11, 0, 0, 0, 0, .int (nI 0), []),
  (11, .istore 4, 13, 0, 0, 0, 0, .null, []),
  (13, .iload 4, 15, 0, 0, 0, 0, .null, []),
  (15, .aload_n 1, 16, 0, 0, 0, 0, .null, []),
  (16, .getfield 34, 19, 11, 3, 1, 78, .int 0, []),
  (19, .if_icmp .ge 48, 22, 67, 0, 0, 0, .null, []),
  (22, .aload_n 0, 23, 0, 0, 0, 0, .null, []),
  (23, .getfield 18, 26, 14, 1, 0, 193, .null, []),
  (26, .aload_n 1, 27, 0, 0, 0, 0, .null, []),
  (27, .iload 4, 29, 0, 0, 0, 0, .null, []),
  (29, .iload_n 2, 30, 0, 0, 0, 0, .null, []),
  (30, .invokevirtual 80, 33, 46, 0, 11, 529, .retAddr 3, []),
  (33, .invokevirtual 91, 36, 92, 0, 15, 530, .retAddr 2, []),
  (36, .istore 5, 38, 0, 0, 0, 0, .null, []),
  (38, .iload 5, 40, 0, 0, 0, 0, .null, []),
  (40, .ifCond .eq 21, 43, 61, 0, 0, 0, .null, []),
  (43, .iload_n 3, 44, 0, 0, 0, 0, .null, []),
  (44, .iconst (-1), 45, 0, 0, 0, 0, .int ((-1)), []),
  (45, .if_icmp .eq 13, 48, 58, 0, 0, 0, .null, []),
  (48, .aload_n 1, 49, 0, 0, 0, 0, .null, []),
  (49, .iload 4, 51, 0, 0, 0, 0, .null, []),
  (51, .iload_n 3, 52, 0, 0, 0, 0, .null, []),
  (52, .invokestatic 94, 55, 84, 0, 0, 531, .retAddr 3, []),
  (55, .ifCond .eq 6, 58, 61, 0, 0, 0, .null, []),
  (58, .iload 4, 60, 0, 0, 0, 0, .null, []),
  (60, .istore_n 3, 61, 0, 0, 0, 0, .null, []),
  (61, .iinc 4 1, 64, 0, 0, 0, 0, .null, []),
  (64, .goto (-51), 67, 13, 0, 0, 0, .null, []),
  (67, .iload_n 3, 68, 0, 0, 0, 0, .null, []),
  (68, .ireturn, 69, 0, 0, 0, 0, .int 0, [])]
def cd84 : List En := [(0, .aload_n 0, 1, 0, 0, 0, 0, .null, []),
  (1, .iload_n 1, 2, 0, 0, 0, 0, .null, []),
  (2, .invokevirtual 41, 5, 39, 0, 11, 363, .retAddr 2, []),
  (5, .ifCond .eq 11, 8, 16, 0, 0, 0, .null, []),
  (8, .aload_n 0, 9, 0, 0, 0, 0, .null, []),
  (9, .iload_n 2, 10, 0, 0, 0, 0, .null, []),
  (10, .invokevirtual 41, 13, 39, 0, 11, 363, .retAddr 2, []),
  (13, .ifCond .ne 5, 16, 18, 0, 0, 0, .null, []),
  (16, .iconst 0, 17, 0, 0, 0, 0, .int (nI 0), []),
  (17, .ireturn, 18, 0, 0, 0, 0, .int 1, []),
  (18, .aload_n 0, 19, 0, 0, 0, 0, .null, []),
  (19, .getfield 98, 22, 11, 7, 1, 91, .null, []),
  (22, .iload_n 1, 23, 0, 0, 0, 0, .null, []),
  (23, .iaload, 24, 0, 0, 0, 0, .null, []),
  (24, .aload_n 0, 25, 0, 0, 0, 0, .null, []),
  (25, .getfield 98, 28, 11, 7, 1, 91, .null, []),
  (28, .iload_n 2, 29, 0, 0, 0, 0, .null, []),
  (29, .iaload, 30, 0, 0, 0, 0, .null, []),
  (30, .if_icmp .eq 24, 33, 54, 0, 0, 0, .null, []),
  (33, .aload_n 0, 34, 0, 0, 0, 0, .null, []),
  (34, .getfield 98, 37, 11, 7, 1, 91, .null, []),
  (37, .iload_n 1, 38, 0, 0, 0, 0, .null, []),
  (38, .iaload, 39, 0, 0, 0, 0, .null, []),
  (39, .aload_n 0, 40, 0, 0, 0, 0, .null, []),
  (40, .getfield 98, 43, 11, 7, 1, 91, .null, []),
  (43, .iload_n 2, 44, 0, 0, 0, 0, .null, []),
  (44, .iaload, 45, 0, 0, 0, 0, .null, []),
  (45, .if_icmp .le 7, 48, 52, 0, 0, 0, .null, []),
  (48, .iconst 1, 49, 0, 0, 0, 0, .int (nI 1), []),
  (49, .goto 4, 52, 53, 0, 0, 0, .null, []),
  (52, .iconst 0, 53, 0, 0, 0, 0, .int (nI 0), []),
  (53, .ireturn, 54, 0, 0, 0, 0, .int 1, []),
  (54, .aload_n 0, 55, 0, 0, 0, 0, .null, []),
  (55, .getfield 57, 58, 11, 6, 1, 88, .null, []),
  (58, .iload_n 1, 59, 0, 0, 0, 0, .null, []),
  (59, .iaload, 60, 0, 0, 0, 0, .null, []),
  (60, .aload_n 0, 61, 0, 0, 0, 0, .null, []),
  (61, .getfield 57, 64, 11, 6, 1, 88, .null, []),
  (64, .iload_n 2, 65, 0, 0, 0, 0, .null, []),
  (65, .iaload, 66, 0, 0, 0, 0, .null, []),
  (66, .if_icmp .ge 7, 69, 73, 0, 0, 0, .null, []),
  (69, .iconst 1, 70, 0, 0, 0, 0, .int (nI 1), []),
  (70, .goto 4, 73, 74, 0, 0, 0, .null, []),
  (73, .iconst 0, 74, 0, 0, 0, 0, .int (nI 0), []),
  (74, .ireturn, 75, 0, 0, 0, 0, .int 1, [])]
def cd85 : List En := [(0, .aload_n 0, 1, 0, 0, 0, 0, .null, []),
  (1, .invokespecial 3, 4, 900, 0, 0, 41, .null, []),
  (4, .aload_n 0, 5, 0, 0, 0, 0, .null, []),
  (5, .bipush 10, 7, 0, 0, 0, 0, .int (nI 10), []),
  (7, .newarray .int, 9, 0, 0, 0, 0, .null, []),
  (9, .putfield 9, 12, 15, 0, 0, 42, .null, []),
  (12, .aload_n 0, 13, 0, 0, 0, 0, .null, []),
  (13, .iconst 0, 14, 0, 0, 0, 0, .int (nI 0), []),
  (14, .putfield 15, 17, 15, 1, 0, 43, .int 0, []),
  (17, .aload_n 0, 18, 0, 0, 0, 0, .null, []),
  (18, .iconst 0, 19, 0, 0, 0, 0, .int (nI 0), []),
  (19, .putfield 19, 22, 15, 2, 0, 46, .int 0, []),
  (22, .aload_n 0, 23, 0, 0, 0, 0, .null, []),
  (23, .iconst 0, 24, 0, 0, 0, 0, .int (nI 0), []),
  (24, .putfield 22, 27, 15, 3, 0, 50, .int 0, []),
  (27, .aload_n 0, 28, 0, 0, 0, 0, .null, []),
  (28, .iconst 1, 29, 0, 0, 0, 0, .int (nI 1), []),
  (29, .putfield 25, 32, 15, 4, 0, 52, .int 0, []),
  (32, .return_, 33, 0, 0, 0, 0, .null, [])]
def cd86 : List En := [(0, .aload_n 0, 1, 0, 0, 0, 0, .null, []),
  (1, .iconst 0, 2, 0, 0, 0, 0, .int (nI 0), []),
  (2, .putfield 15, 5, 15, 1, 0, 43, .int 0, []),
  (5, .aload_n 0, 6, 0, 0, 0, 0, .null, []),
  (6, .iconst 0, 7, 0, 0, 0, 0, .int (nI 0), []),
  (7, .putfield 19, 10, 15, 2, 0, 46, .int 0, []),
  (10, .aload_n 0, 11, 0, 0, 0, 0, .null, []),
  (11, .iconst 0, 12, 0, 0, 0, 0, .int (nI 0), []),
  (12, .putfield 22, 15, 15, 3, 0, 50, .int 0, []),
  (15, .aload_n 0, 16, 0, 0, 0, 0, .null, []),
  (16, .iconst 1, 17, 0, 0, 0, 0, .int (nI 1), []),
  (17, .putfield 25, 20, 15, 4, 0, 52, .int 0, []),
  (20, .return_, 21, 0, 0, 0, 0, .null, [])]
def cd87 : List En := [(0, .aload_n 0, 1, 0, 0, 0, 0, .null, []),
  (1, .getfield 15, 4, 15, 1, 0, 43, .int 0, []),
  (4, .ifCond .lt 17, 7, 21, 0, 0, 0, .null, []),
  (7, .aload_n 0, 8, 0, 0, 0, 0, .null, []),
  (8, .getfield 15, 11, 15, 1, 0, 43, .int 0, []),
  (11, .iconst 1, 12, 0, 0, 0, 0, .int (nI 1), []),
  (12, .iadd, 13, 0, 0, 0, 0, .null, []),
  (13, .aload_n 0, 14, 0, 0, 0, 0, .null, []),
  (14, .getfield 9, 17, 15, 0, 0, 42, .null, []),
  (17, .arraylength, 18, 0, 0, 0, 0, .null, []),
  (18, .if_icmp .lt 4, 21, 22, 0, 0, 0, .null, []),
  (21, .return_, 22, 0, 0, 0, 0, .null, []),
  (22, .aload_n 0, 23, 0, 0, 0, 0, .null, []),
  (23, .dup, 24, 0, 0, 0, 0, .null, []),
  (24, .getfield 15, 27, 15, 1, 0, 43, .int 0, []),
  (27, .iconst 1, 28, 0, 0, 0, 0, .int (nI 1), []),
  (28, .iadd, 29, 0, 0, 0, 0, .null, []),
  (29, .putfield 15, 32, 15, 1, 0, 43, .int 0, []),
  (32, .aload_n 0, 33, 0, 0, 0, 0, .null, []),
  (33, .getfield 9, 36, 15, 0, 0, 42, .null, []),
  (36, .aload_n 0, 37, 0, 0, 0, 0, .null, []),
  (37, .getfield 15, 40, 15, 1, 0, 43, .int 0, []),
  (40, .iload_n 2, 41, 0, 0, 0, 0, .null, []),
  (41, .iastore, 42, 0, 0, 0, 0, .null, []),
  (42, .aload_n 0, 43, 0, 0, 0, 0, .null, []),
  (43, .dup, 44, 0, 0, 0, 0, .null, []),
  (44, .getfield 19, 47, 15, 2, 0, 46, .int 0, []),
  (47, .iload_n 3, 48, 0, 0, 0, 0, .null, []),
  (48, .iadd, 49, 0, 0, 0, 0, .null, []),
  (49, .putfield 19, 52, 15, 2, 0, 46, .int 0, []),
  (52, .aload_n 0, 53, 0, 0, 0, 0, .null, []),
  (53, .dup, 54, 0, 0, 0, 0, .null, []),
  (54, .getfield 22, 57, 15, 3, 0, 50, .int 0, []),
  (57, .iconst 1, 58, 0, 0, 0, 0, .int (nI 1), []),
  (58, .iload_n 1, 59, 0, 0, 0, 0, .null, []),
  (59, .ishl, 60, 0, 0, 0, 0, .null, []),
  (60, .ior, 61, 0, 0, 0, 0, .null, []),
  (61, .putfield 22, 64, 15, 3, 0, 50, .int 0, []),
  (64, .aload_n 0, 65, 0, 0, 0, 0, .null, []),
  (65, .dup, 66, 0, 0, 0, 0, .null, []),
  (66, .getfield 25, 69, 15, 4, 0, 52, .int 0, []),
  (69, .iconst 1, 70, 0, 0, 0, 0, .int (nI 1), []),
  (70, .iload_n 2, 71, 0, 0, 0, 0, .null, []),
  (71, .ishl, 72, 0, 0, 0, 0, .null, []),
  (72, .ior, 73, 0, 0, 0, 0, .null, []),
  (73, .putfield 25, 76, 15, 4, 0, 52, .int 0, []),
  (76, .return_, 77, 0, 0, 0, 0, .null, [])]
def cd88 : List En := [(0, .iload_n 1, 1, 0, 0, 0, 0, .null, []),
  (1, .ifCond .lt 21, 4, 22, 0, 0, 0, .null, []),
  (4, .iload_n 1, 5, 0, 0, 0, 0, .null, []),
  (5, .aload_n 0, 6, 0, 0, 0, 0, .null, []),
  (6, .getfield 9, 9, 15, 0, 0, 42, .null, []),
  (9, .arraylength, 10, 0, 0, 0, 0, .null, []),
  (10, .if_icmp .ge 12, 13, 22, 0, 0, 0, .null, []),
  (13, .aload_n 0, 14, 0, 0, 0, 0, .null, []),
  (14, .getfield 9, 17, 15, 0, 0, 42, .null, []),
  (17, .iload_n 1, 18, 0, 0, 0, 0, .null, []),
  (18, .iaload, 19, 0, 0, 0, 0, .null, []),
  (19, .goto 4, 22, 23, 0, 0, 0, .null, []),
  (22, .iconst (-1), 23, 0, 0, 0, 0, .int ((-1)), []),
  (23, .ireturn, 24, 0, 0, 0, 0, .int 0, [])]
def cd89 : List En := [(0, .aload_n 0, 1, 0, 0, 0, 0, .null, []),
  (1, .aload_n 0, 2, 0, 0, 0, 0, .null, []),
  (2, .getfield 15, 5, 15, 1, 0, 43, .int 0, []),
  (5, .invokevirtual 28, 8, 88, 0, 15, 444, .retAddr 2, []),
  (8, .ireturn, 9, 0, 0, 0, 0, .int 0, [])]
def cd90 : List En := [(0, .aload_n 0, 1, 0, 0, 0, 0, .null, []),
  (1, .getfield 22, 4, 15, 3, 0, 50, .int 0, []),
  (4, .iload_n 1, 5, 0, 0, 0, 0, .null, []),
  (5, .invokestatic 32, 8, 26, 0, 0, 333, .retAddr 2, []),
  (8, .ireturn, 9, 0, 0, 0, 0, .int 1, [])]
def cd91 : List En := [(0, .aload_n 0, 1, 0, 0, 0, 0, .null, []),
  (1, .getfield 25, 4, 15, 4, 0, 52, .int 0, []),
  (4, .iload_n 1, 5, 0, 0, 0, 0, .null, []),
  (5, .invokestatic 32, 8, 26, 0, 0, 333, .retAddr 2, []),
  (8, .ireturn, 9, 0, 0, 0, 0, .int 1, [])]
def cd92 : List En := [(0, .iload_n 1, 1, 0, 0, 0, 0, .null, []),
  (1, .iconst (-1), 2, 0, 0, 0, 0, .int ((-1)), []),
  (2, .if_icmp .eq 18, 5, 20, 0, 0, 0, .null, []),
  (5, .aload_n 0, 6, 0, 0, 0, 0, .null, []),
  (6, .getfield 25, 9, 15, 4, 0, 52, .int 0, []),
  (9, .iload_n 1, 10, 0, 0, 0, 0, .null, []),
  (10, .invokestatic 32, 13, 26, 0, 0, 333, .retAddr 2, []),
  (13, .ifCond .ne 7, 16, 20, 0, 0, 0, .null, []),
  (16, .iconst 1, 17, 0, 0, 0, 0, .int (nI 1), []),
  (17, .goto 4, 20, 21, 0, 0, 0, .null, []),
  (20, .iconst 0, 21, 0, 0, 0, 0, .int (nI 0), []),
  (21, .ireturn, 22, 0, 0, 0, 0, .int 1, [])]
def cd93 : List En := [(0, .aload_n 0, 1, 0, 0, 0, 0, .null, []),
  (1, .ifnull 7, 4, 8, 0, 0, 0, .null, []),
  (4, .aload_n 1, 5, 0, 0, 0, 0, .null, []),
  (5, .ifnonnull 4, 8, 9, 0, 0, 0, .null, []),
  (8, .return_, 9, 0, 0, 0, 0, .null, []),
  (9, .aload_n 0, 10, 0, 0, 0, 0, .null, []),
  (10, .getfield 9, 13, 15, 0, 0, 42, .null, []),
  (13, .aload_n 1, 14, 0, 0, 0, 0, .null, []),
  (14, .getfield 9, 17, 15, 0, 0, 42, .null, []),
  (17, .invokestatic 36, 20, 27, 1, 0, 305, .retAddr 2, []),
  (20, .aload_n 1, 21, 0, 0, 0, 0, .null, []),
  (21, .aload_n 0, 22, 0, 0, 0, 0, .null, []),
  (22, .getfield 15, 25, 15, 1, 0, 43, .int 0, []),
  (25, .putfield 15, 28, 15, 1, 0, 43, .int 0, []),
  (28, .aload_n 1, 29, 0, 0, 0, 0, .null, []),
  (29, .aload_n 0, 30, 0, 0, 0, 0, .null, []),
  (30, .getfield 19, 33, 15, 2, 0, 46, .int 0, []),
  (33, .putfield 19, 36, 15, 2, 0, 46, .int 0, []),
  (36, .aload_n 1, 37, 0, 0, 0, 0, .null, []),
  (37, .aload_n 0, 38, 0, 0, 0, 0, .null, []),
  (38, .getfield 22, 41, 15, 3, 0, 50, .int 0, []),
  (41, .putfield 22, 44, 15, 3, 0, 50, .int 0, []),
  (44, .aload_n 1, 45, 0, 0, 0, 0, .null, []),
  (45, .aload_n 0, 46, 0, 0, 0, 0, .null, []),
  (46, .getfield 25, 49, 15, 4, 0, 52, .int 0, []),
  (49, .putfield 25, 52, 15, 4, 0, 52, .int 0, []),
  (52, .return_, 53, 0, 0, 0, 0, .null, [])]
def cd94 : List En := [(0, .iload_n 1, 1, 0, 0, 0, 0, .null, []),
  (1, .aload_n 0, 2, 0, 0, 0, 0, .null, []),
  (2, .arraylength, 3, 0, 0, 0, 0, .null, []),
  (3, .if_icmp .ge 9, 6, 12, 0, 0, 0, .null, []),
  (6, .aload_n 0, 7, 0, 0, 0, 0, .null, []),
  (7, .iload_n 1, 8, 0, 0, 0, 0, .null, []),
  (8, .iaload, 9, 0, 0, 0, 0, .null, []),
  (9, .goto 15, 12, 24, 0, 0, 0, .null, []),
  (12, .ldc 7, 14, 0, 0, 0, 309, .int ((-2082413205)), []),
  (14, .iload_n 1, 15, 0, 0, 0, 0, .null, []),
  (15, .sipush 3833, 18, 0, 0, 0, 0, .int (nI 3833), []),
  (18, .iadd, 19, 0, 0, 0, 0, .null, []),
  (19, .imul, 20, 0, 0, 0, 0, .null, []),
  (20, .sipush 3613, 23, 0, 0, 0, 0, .int (nI 3613), []),
  (23, .iadd, 24, 0, 0, 0, 0, .null, []),
  (24, .ireturn, 25, 0, 0, 0, 0, .int 0, [])]
def cd95 : List En := [(0, .iload_n 0, 1, 0, 0, 0, 0, .null, []),
  (1, .ldc 8, 3, 0, 0, 0, 313, .int (nI 2147483647), []),
  (3, .iand, 4, 0, 0, 0, 0, .null, []),
  (4, .iload_n 1, 5, 0, 0, 0, 0, .null, []),
  (5, .irem, 6, 0, 0, 0, 0, .null, []),
  (6, .ireturn, 7, 0, 0, 0, 0, .int 0, [])]
def cd96_0 : List En := [(0, .ldc2_w 9, 3, 0, 0, 0, 317, .long 251, []),
  (3, .lstore_n 1, 4, 0, 0, 0, 0, .null, []),
  (4, .iconst 0, 5, 0, 0, 0, 0, .int (nI 0), []),
  (5, .istore_n 3, 6, 0, 0, 0, 0, .null, []),
  (6, .iload_n 3, 7, 0, 0, 0, 0, .null, []),
  (7, .bipush 12, 9, 0, 0, 0, 0, .int (nI 12), []),
  (9, .if_icmp .ge 22, 12, 31, 0, 0, 0, .null, []),
  (12, .ldc2_w 11, 15, 0, 0, 0, 318, .long 31, []),
  (15, .lload_n 1, 16, 0, 0, 0, 0, .null, []),
  (16, .lmul, 17, 0, 0, 0, 0, .null, []),
  (17, .aload_n 0, 18, 0, 0, 0, 0, .null, []),
  (18, .iload_n 3, 19, 0, 0, 0, 0, .null, []),
  (19, .invokevirtual 13, 22, 18, 0, 16, 255, .retAddr 2, []),
  (22, .i2l, 23, 0, 0, 0, 0, .null, []),
  (23, .ladd, 24, 0, 0, 0, 0, .null, []),
  (24, .lstore_n 1, 25, 0, 0, 0, 0, .null, []),
  (25, .iinc 3 1, 28, 0, 0, 0, 0, .null, []),
  (28, .goto (-22), 31, 6, 0, 0, 0, .null, []),
  (31, .iconst 0, 32, 0, 0, 0, 0, .int (nI 0), []),
  (32, .istore_n 3, 33, 0, 0, 0, 0, .null, []),
  (33, .iload_n 3, 34, 0, 0, 0, 0, .null, []),
  (34, .aload_n 0, 35, 0, 0, 0, 0, .null, []),
  (35, .iconst 1, 36, 0, 0, 0, 0, .int (nI 1), []),
  (36, .invokevirtual 13, 39, 18, 0, 16, 255, .retAddr 2, []),
  (39, .if_icmp .ge 40, 42, 79, 0, 0, 0, .null, []),
  (42, .iconst 0, 43, 0, 0, 0, 0, .int (nI 0), []),
  (43, .istore 4, 45, 0, 0, 0, 0, .null, []),
  (45, .iload 4, 47, 0, 0, 0, 0, .null, []),
  (47, .bipush 8, 49, 0, 0, 0, 0, .int (nI 8), []),
  (49, .if_icmp .ge 24, 52, 73, 0, 0, 0, .null, []),
  (52, .ldc2_w 11, 55, 0, 0, 0, 318, .long 31, []),
  (55, .lload_n 1, 56, 0, 0, 0, 0, .null, []),
  (56, .lmul, 57, 0, 0, 0, 0, .null, []),
  (57, .aload_n 0, 58, 0, 0, 0, 0, .null, []),
  (58, .iload_n 3, 59, 0, 0, 0, 0, .null, []),
  (59, .iload 4, 61, 0, 0, 0, 0, .null, []),
  (61, .invokevirtual 19, 64, 9, 0, 16, 319, .retAddr 3, []),
  (64, .i2l, 65, 0, 0, 0, 0, .null, []),
  (65, .ladd, 66, 0, 0, 0, 0, .null, []),
  (66, .lstore_n 1, 67, 0, 0, 0, 0, .null, []),
  (67, .iinc 4 1, 70, 0, 0, 0, 0, .null, []),
  (70, .goto (-25), 73, 45, 0, 0, 0, .null, []),
  (73, .iinc 3 1, 76, 0, 0, 0, 0, .null, []),
  (76, .goto (-43), 79, 33, 0, 0, 0, .null, []),
  (79, .iconst 0, 80, 0, 0, 0, 0, .int (nI 0), []),
  (80, .istore_n 3, 81, 0, 0, 0, 0, .null, []),
  (81, .iload_n 3, 82, 0, 0, 0, 0, .null, []),
  (82, .aload_n 0, 83, 0, 0, 0, 0, .null, []),
  (83, .iconst 0, 84, 0, 0, 0, 0, .int (nI 0), []),
  (84, .invokevirtual 13, 87, 18, 0, 16, 255, .retAddr 2, [])]
def cd96_1 : List En := [(87, .if_icmp .ge 47, 90, 134, 0, 0, 0, .null, []),
  (90, .ldc2_w 11, 93, 0, 0, 0, 318, .long 31, []),
  (93, .ldc2_w 11, 96, 0, 0, 0, 318, .long 31, []),
  (96, .ldc2_w 11, 99, 0, 0, 0, 318, .long 31, []),
  (99, .lload_n 1, 100, 0, 0, 0, 0, .null, []),
  (100, .lmul, 101, 0, 0, 0, 0, .null, []),
  (101, .aload_n 0, 102, 0, 0, 0, 0, .null, []),
  (102, .iload_n 3, 103, 0, 0, 0, 0, .null, []),
  (103, .iconst 1, 104, 0, 0, 0, 0, .int (nI 1), []),
  (104, .invokevirtual 23, 107, 10, 0, 16, 336, .retAddr 3, []),
  (107, .i2l, 108, 0, 0, 0, 0, .null, []),
  (108, .ladd, 109, 0, 0, 0, 0, .null, []),
  (109, .lmul, 110, 0, 0, 0, 0, .null, []),
  (110, .aload_n 0, 111, 0, 0, 0, 0, .null, []),
  (111, .iload_n 3, 112, 0, 0, 0, 0, .null, []),
  (112, .iconst 2, 113, 0, 0, 0, 0, .int (nI 2), []),
  (113, .invokevirtual 23, 116, 10, 0, 16, 336, .retAddr 3, []),
  (116, .i2l, 117, 0, 0, 0, 0, .null, []),
  (117, .ladd, 118, 0, 0, 0, 0, .null, []),
  (118, .lmul, 119, 0, 0, 0, 0, .null, []),
  (119, .aload_n 0, 120, 0, 0, 0, 0, .null, []),
  (120, .iload_n 3, 121, 0, 0, 0, 0, .null, []),
  (121, .iconst 4, 122, 0, 0, 0, 0, .int (nI 4), []),
  (122, .invokevirtual 23, 125, 10, 0, 16, 336, .retAddr 3, []),
  (125, .i2l, 126, 0, 0, 0, 0, .null, []),
  (126, .ladd, 127, 0, 0, 0, 0, .null, []),
  (127, .lstore_n 1, 128, 0, 0, 0, 0, .null, []),
  (128, .iinc 3 1, 131, 0, 0, 0, 0, .null, []),
  (131, .goto (-50), 134, 81, 0, 0, 0, .null, []),
  (134, .iconst 0, 135, 0, 0, 0, 0, .int (nI 0), []),
  (135, .istore_n 3, 136, 0, 0, 0, 0, .null, []),
  (136, .iload_n 3, 137, 0, 0, 0, 0, .null, []),
  (137, .bipush 7, 139, 0, 0, 0, 0, .int (nI 7), []),
  (139, .if_icmp .ge 25, 142, 164, 0, 0, 0, .null, []),
  (142, .ldc2_w 11, 145, 0, 0, 0, 318, .long 31, []),
  (145, .lload_n 1, 146, 0, 0, 0, 0, .null, []),
  (146, .lmul, 147, 0, 0, 0, 0, .null, []),
  (147, .aload_n 0, 148, 0, 0, 0, 0, .null, []),
  (148, .bipush 20, 150, 0, 0, 0, 0, .int (nI 20), []),
  (150, .iload_n 3, 151, 0, 0, 0, 0, .null, []),
  (151, .iadd, 152, 0, 0, 0, 0, .null, []),
  (152, .invokevirtual 13, 155, 18, 0, 16, 255, .retAddr 2, []),
  (155, .i2l, 156, 0, 0, 0, 0, .null, []),
  (156, .ladd, 157, 0, 0, 0, 0, .null, []),
  (157, .lstore_n 1, 158, 0, 0, 0, 0, .null, []),
  (158, .iinc 3 1, 161, 0, 0, 0, 0, .null, []),
  (161, .goto (-25), 164, 136, 0, 0, 0, .null, []),
  (164, .ldc2_w 11, 167, 0, 0, 0, 318, .long 31, []),
  (167, .ldc2_w 11, 170, 0, 0, 0, 318, .long 31, []),
  (170, .ldc2_w 11, 173, 0, 0, 0, 318, .long 31, [])]
def cd96_2 : List En := [(173, .lload_n 1, 174, 0, 0, 0, 0, .null, []),
  (174, .lmul, 175, 0, 0, 0, 0, .null, []),
  (175, .aload_n 0, 176, 0, 0, 0, 0, .null, []),
  (176, .iconst 0, 177, 0, 0, 0, 0, .int (nI 0), []),
  (177, .invokevirtual 26, 180, 11, 0, 16, 377, .retAddr 2, []),
  (180, .i2l, 181, 0, 0, 0, 0, .null, []),
  (181, .ladd, 182, 0, 0, 0, 0, .null, []),
  (182, .lmul, 183, 0, 0, 0, 0, .null, []),
  (183, .aload_n 0, 184, 0, 0, 0, 0, .null, []),
  (184, .iconst 2, 185, 0, 0, 0, 0, .int (nI 2), []),
  (185, .invokevirtual 26, 188, 11, 0, 16, 377, .retAddr 2, []),
  (188, .i2l, 189, 0, 0, 0, 0, .null, []),
  (189, .ladd, 190, 0, 0, 0, 0, .null, []),
  (190, .lmul, 191, 0, 0, 0, 0, .null, []),
  (191, .aload_n 0, 192, 0, 0, 0, 0, .null, []),
  (192, .iconst 1, 193, 0, 0, 0, 0, .int (nI 1), []),
  (193, .invokevirtual 29, 196, 12, 0, 16, 382, .retAddr 2, []),
  (196, .i2l, 197, 0, 0, 0, 0, .null, []),
  (197, .ladd, 198, 0, 0, 0, 0, .null, []),
  (198, .lreturn, 199, 0, 0, 0, 0, .null, [])]
def cd96 : List En := cd96_0 ++ (cd96_1 ++ (cd96_2))
def cd97_0 : List En := [(0, .aload_n 0, 1, 0, 0, 0, 0, .null, []),
  (1, .iconst 1, 2, 0, 0, 0, 0, .int (nI 1), []),
  (2, .invokevirtual 13, 5, 18, 0, 16, 255, .retAddr 2, []),
  (5, .istore_n 1, 6, 0, 0, 0, 0, .null, []),
  (6, .aload_n 0, 7, 0, 0, 0, 0, .null, []),
  (7, .iconst 0, 8, 0, 0, 0, 0, .int (nI 0), []),
  (8, .invokevirtual 13, 11, 18, 0, 16, 255, .retAddr 2, []),
  (11, .istore_n 2, 12, 0, 0, 0, 0, .null, []),
  (12, .iconst 0, 13, 0, 0, 0, 0, .int (nI 0), []),
  (13, .istore_n 3, 14, 0, 0, 0, 0, .null, []),
  (14, .iconst 0, 15, 0, 0, 0, 0, .int (nI 0), []),
  (15, .istore 4, 17, 0, 0, 0, 0, .null, []),
  (17, .iconst 1, 18, 0, 0, 0, 0, .int (nI 1), []),
  (18, .istore 5, 20, 0, 0, 0, 0, .null, []),
  (20, .iconst 0, 21, 0, 0, 0, 0, .int (nI 0), []),
  (21, .istore 6, 23, 0, 0, 0, 0, .null, []),
  (23, .iload 6, 25, 0, 0, 0, 0, .null, []),
  (25, .iload_n 1, 26, 0, 0, 0, 0, .null, []),
  (26, .if_icmp .ge 232, 29, 258, 0, 0, 0, .null, []),
  (29, .iload 5, 31, 0, 0, 0, 0, .null, []),
  (31, .ifCond .eq 227, 34, 258, 0, 0, 0, .null, []),
  (34, .aload_n 0, 35, 0, 0, 0, 0, .null, []),
  (35, .iload 6, 37, 0, 0, 0, 0, .null, []),
  (37, .iconst 0, 38, 0, 0, 0, 0, .int (nI 0), []),
  (38, .invokevirtual 19, 41, 9, 0, 16, 319, .retAddr 3, []),
  (41, .istore 7, 43, 0, 0, 0, 0, .null, []),
  (43, .aload_n 0, 44, 0, 0, 0, 0, .null, []),
  (44, .iload 6, 46, 0, 0, 0, 0, .null, []),
  (46, .iconst 1, 47, 0, 0, 0, 0, .int (nI 1), []),
  (47, .invokevirtual 19, 50, 9, 0, 16, 319, .retAddr 3, []),
  (50, .istore 8, 52, 0, 0, 0, 0, .null, []),
  (52, .aload_n 0, 53, 0, 0, 0, 0, .null, []),
  (53, .iload 7, 55, 0, 0, 0, 0, .null, []),
  (55, .iconst 3, 56, 0, 0, 0, 0, .int (nI 3), []),
  (56, .invokevirtual 23, 59, 10, 0, 16, 336, .retAddr 3, []),
  (59, .istore 9, 61, 0, 0, 0, 0, .null, []),
  (61, .aload_n 0, 62, 0, 0, 0, 0, .null, []),
  (62, .iload 8, 64, 0, 0, 0, 0, .null, []),
  (64, .iconst 3, 65, 0, 0, 0, 0, .int (nI 3), []),
  (65, .invokevirtual 23, 68, 10, 0, 16, 336, .retAddr 3, []),
  (68, .istore 10, 70, 0, 0, 0, 0, .null, []),
  (70, .iload_n 3, 71, 0, 0, 0, 0, .null, []),
  (71, .aload_n 0, 72, 0, 0, 0, 0, .null, []),
  (72, .iload 6, 74, 0, 0, 0, 0, .null, []),
  (74, .iconst 3, 75, 0, 0, 0, 0, .int (nI 3), []),
  (75, .invokevirtual 19, 78, 9, 0, 16, 319, .retAddr 3, []),
  (78, .iadd, 79, 0, 0, 0, 0, .null, []),
  (79, .istore_n 3, 80, 0, 0, 0, 0, .null, []),
  (80, .iload 4, 82, 0, 0, 0, 0, .null, []),
  (82, .aload_n 0, 83, 0, 0, 0, 0, .null, [])]
def cd97_1 : List En := [(83, .iload 6, 85, 0, 0, 0, 0, .null, []),
  (85, .bipush 6, 87, 0, 0, 0, 0, .int (nI 6), []),
  (87, .invokevirtual 19, 90, 9, 0, 16, 319, .retAddr 3, []),
  (90, .iadd, 91, 0, 0, 0, 0, .null, []),
  (91, .istore 4, 93, 0, 0, 0, 0, .null, []),
  (93, .iload 7, 95, 0, 0, 0, 0, .null, []),
  (95, .ifCond .lt 154, 98, 249, 0, 0, 0, .null, []),
  (98, .iload 7, 100, 0, 0, 0, 0, .null, []),
  (100, .iload_n 2, 101, 0, 0, 0, 0, .null, []),
  (101, .if_icmp .ge 148, 104, 249, 0, 0, 0, .null, []),
  (104, .iload 8, 106, 0, 0, 0, 0, .null, []),
  (106, .ifCond .lt 143, 109, 249, 0, 0, 0, .null, []),
  (109, .iload 8, 111, 0, 0, 0, 0, .null, []),
  (111, .iload_n 2, 112, 0, 0, 0, 0, .null, []),
  (112, .if_icmp .ge 137, 115, 249, 0, 0, 0, .null, []),
  (115, .iload 7, 117, 0, 0, 0, 0, .null, []),
  (117, .iload 8, 119, 0, 0, 0, 0, .null, []),
  (119, .if_icmp .eq 130, 122, 249, 0, 0, 0, .null, []),
  (122, .aload_n 0, 123, 0, 0, 0, 0, .null, []),
  (123, .iload 6, 125, 0, 0, 0, 0, .null, []),
  (125, .iconst 3, 126, 0, 0, 0, 0, .int (nI 3), []),
  (126, .invokevirtual 19, 129, 9, 0, 16, 319, .retAddr 3, []),
  (129, .iconst 1, 130, 0, 0, 0, 0, .int (nI 1), []),
  (130, .if_icmp .lt 119, 133, 249, 0, 0, 0, .null, []),
  (133, .aload_n 0, 134, 0, 0, 0, 0, .null, []),
  (134, .iload 6, 136, 0, 0, 0, 0, .null, []),
  (136, .iconst 4, 137, 0, 0, 0, 0, .int (nI 4), []),
  (137, .invokevirtual 19, 140, 9, 0, 16, 319, .retAddr 3, []),
  (140, .iconst 1, 141, 0, 0, 0, 0, .int (nI 1), []),
  (141, .if_icmp .eq 67, 144, 208, 0, 0, 0, .null, []),
  (144, .iload 9, 146, 0, 0, 0, 0, .null, []),
  (146, .ldc 34, 148, 0, 0, 0, 393, .int ((-1000000004)), []),
  (148, .if_icmp .ne 7, 151, 155, 0, 0, 0, .null, []),
  (151, .iconst 1, 152, 0, 0, 0, 0, .int (nI 1), []),
  (152, .goto 4, 155, 156, 0, 0, 0, .null, []),
  (155, .iconst 0, 156, 0, 0, 0, 0, .int (nI 0), []),
  (156, .iload 10, 158, 0, 0, 0, 0, .null, []),
  (158, .ldc 34, 160, 0, 0, 0, 393, .int ((-1000000004)), []),
  (160, .if_icmp .ne 7, 163, 167, 0, 0, 0, .null, []),
  (163, .iconst 1, 164, 0, 0, 0, 0, .int (nI 1), []),
  (164, .goto 4, 167, 168, 0, 0, 0, .null, []),
  (167, .iconst 0, 168, 0, 0, 0, 0, .int (nI 0), []),
  (168, .if_icmp .ne 81, 171, 249, 0, 0, 0, .null, []),
  (171, .iload 9, 173, 0, 0, 0, 0, .null, []),
  (173, .ldc 34, 175, 0, 0, 0, 393, .int ((-1000000004)), []),
  (175, .if_icmp .eq 33, 178, 208, 0, 0, 0, .null, []),
  (178, .iload 9, 180, 0, 0, 0, 0, .null, []),
  (180, .iload 10, 182, 0, 0, 0, 0, .null, []),
  (182, .isub, 183, 0, 0, 0, 0, .null, []),
  (183, .aload_n 0, 184, 0, 0, 0, 0, .null, [])]
def cd97_2 : List En := [(184, .iload 6, 186, 0, 0, 0, 0, .null, []),
  (186, .iconst 2, 187, 0, 0, 0, 0, .int (nI 2), []),
  (187, .invokevirtual 19, 190, 9, 0, 16, 319, .retAddr 3, []),
  (190, .if_icmp .gt 59, 193, 249, 0, 0, 0, .null, []),
  (193, .iload 10, 195, 0, 0, 0, 0, .null, []),
  (195, .iload 9, 197, 0, 0, 0, 0, .null, []),
  (197, .isub, 198, 0, 0, 0, 0, .null, []),
  (198, .aload_n 0, 199, 0, 0, 0, 0, .null, []),
  (199, .iload 6, 201, 0, 0, 0, 0, .null, []),
  (201, .iconst 2, 202, 0, 0, 0, 0, .int (nI 2), []),
  (202, .invokevirtual 19, 205, 9, 0, 16, 319, .retAddr 3, []),
  (205, .if_icmp .gt 44, 208, 249, 0, 0, 0, .null, []),
  (208, .aload_n 0, 209, 0, 0, 0, 0, .null, []),
  (209, .iload 7, 211, 0, 0, 0, 0, .null, []),
  (211, .iload 6, 213, 0, 0, 0, 0, .null, []),
  (213, .invokevirtual 35, 216, 13, 1, 16, 394, .retAddr 3, []),
  (216, .ldc 34, 218, 0, 0, 0, 393, .int ((-1000000004)), []),
  (218, .if_icmp .ne 7, 221, 225, 0, 0, 0, .null, []),
  (221, .iconst 1, 222, 0, 0, 0, 0, .int (nI 1), []),
  (222, .goto 4, 225, 226, 0, 0, 0, .null, []),
  (225, .iconst 0, 226, 0, 0, 0, 0, .int (nI 0), []),
  (226, .aload_n 0, 227, 0, 0, 0, 0, .null, []),
  (227, .iload 6, 229, 0, 0, 0, 0, .null, []),
  (229, .iconst 4, 230, 0, 0, 0, 0, .int (nI 4), []),
  (230, .invokevirtual 19, 233, 9, 0, 16, 319, .retAddr 3, []),
  (233, .iconst 1, 234, 0, 0, 0, 0, .int (nI 1), []),
  (234, .if_icmp .ne 7, 237, 241, 0, 0, 0, .null, []),
  (237, .iconst 1, 238, 0, 0, 0, 0, .int (nI 1), []),
  (238, .goto 4, 241, 242, 0, 0, 0, .null, []),
  (241, .iconst 0, 242, 0, 0, 0, 0, .int (nI 0), []),
  (242, .if_icmp .ne 7, 245, 249, 0, 0, 0, .null, []),
  (245, .iconst 1, 246, 0, 0, 0, 0, .int (nI 1), []),
  (246, .goto 4, 249, 250, 0, 0, 0, .null, []),
  (249, .iconst 0, 250, 0, 0, 0, 0, .int (nI 0), []),
  (250, .istore 5, 252, 0, 0, 0, 0, .null, []),
  (252, .iinc 6 1, 255, 0, 0, 0, 0, .null, []),
  (255, .goto (-232), 258, 23, 0, 0, 0, .null, []),
  (258, .iconst 0, 259, 0, 0, 0, 0, .int (nI 0), []),
  (259, .istore 6, 261, 0, 0, 0, 0, .null, []),
  (261, .iconst 0, 262, 0, 0, 0, 0, .int (nI 0), []),
  (262, .istore 7, 264, 0, 0, 0, 0, .null, []),
  (264, .iconst 0, 265, 0, 0, 0, 0, .int (nI 0), []),
  (265, .istore 8, 267, 0, 0, 0, 0, .null, []),
  (267, .iload 8, 269, 0, 0, 0, 0, .null, []),
  (269, .iload_n 2, 270, 0, 0, 0, 0, .null, []),
  (270, .if_icmp .ge 33, 273, 303, 0, 0, 0, .null, []),
  (273, .iload 6, 275, 0, 0, 0, 0, .null, []),
  (275, .aload_n 0, 276, 0, 0, 0, 0, .null, []),
  (276, .iload 8, 278, 0, 0, 0, 0, .null, []),
  (278, .iconst 1, 279, 0, 0, 0, 0, .int (nI 1), [])]
def cd97_3 : List En := [(279, .invokevirtual 23, 282, 10, 0, 16, 336, .retAddr 3, []),
  (282, .iadd, 283, 0, 0, 0, 0, .null, []),
  (283, .istore 6, 285, 0, 0, 0, 0, .null, []),
  (285, .iload 7, 287, 0, 0, 0, 0, .null, []),
  (287, .aload_n 0, 288, 0, 0, 0, 0, .null, []),
  (288, .iload 8, 290, 0, 0, 0, 0, .null, []),
  (290, .iconst 2, 291, 0, 0, 0, 0, .int (nI 2), []),
  (291, .invokevirtual 23, 294, 10, 0, 16, 336, .retAddr 3, []),
  (294, .iadd, 295, 0, 0, 0, 0, .null, []),
  (295, .istore 7, 297, 0, 0, 0, 0, .null, []),
  (297, .iinc 8 1, 300, 0, 0, 0, 0, .null, []),
  (300, .goto (-33), 303, 267, 0, 0, 0, .null, []),
  (303, .iload 5, 305, 0, 0, 0, 0, .null, []),
  (305, .ifCond .eq 176, 308, 481, 0, 0, 0, .null, []),
  (308, .iload_n 3, 309, 0, 0, 0, 0, .null, []),
  (309, .aload_n 0, 310, 0, 0, 0, 0, .null, []),
  (310, .bipush 8, 312, 0, 0, 0, 0, .int (nI 8), []),
  (312, .invokevirtual 13, 315, 18, 0, 16, 255, .retAddr 2, []),
  (315, .if_icmp .ne 166, 318, 481, 0, 0, 0, .null, []),
  (318, .iload 4, 320, 0, 0, 0, 0, .null, []),
  (320, .iload 6, 322, 0, 0, 0, 0, .null, []),
  (322, .if_icmp .ne 159, 325, 481, 0, 0, 0, .null, []),
  (325, .iload 7, 327, 0, 0, 0, 0, .null, []),
  (327, .aload_n 0, 328, 0, 0, 0, 0, .null, []),
  (328, .bipush 6, 330, 0, 0, 0, 0, .int (nI 6), []),
  (330, .invokevirtual 13, 333, 18, 0, 16, 255, .retAddr 2, []),
  (333, .if_icmp .ne 148, 336, 481, 0, 0, 0, .null, []),
  (336, .aload_n 0, 337, 0, 0, 0, 0, .null, []),
  (337, .iconst 4, 338, 0, 0, 0, 0, .int (nI 4), []),
  (338, .invokevirtual 13, 341, 18, 0, 16, 255, .retAddr 2, []),
  (341, .aload_n 0, 342, 0, 0, 0, 0, .null, []),
  (342, .iconst 5, 343, 0, 0, 0, 0, .int (nI 5), []),
  (343, .invokevirtual 13, 346, 18, 0, 16, 255, .retAddr 2, []),
  (346, .aload_n 0, 347, 0, 0, 0, 0, .null, []),
  (347, .bipush 6, 349, 0, 0, 0, 0, .int (nI 6), []),
  (349, .invokevirtual 13, 352, 18, 0, 16, 255, .retAddr 2, []),
  (352, .iadd, 353, 0, 0, 0, 0, .null, []),
  (353, .aload_n 0, 354, 0, 0, 0, 0, .null, []),
  (354, .bipush 7, 356, 0, 0, 0, 0, .int (nI 7), []),
  (356, .invokevirtual 13, 359, 18, 0, 16, 255, .retAddr 2, []),
  (359, .iadd, 360, 0, 0, 0, 0, .null, []),
  (360, .if_icmp .ne 121, 363, 481, 0, 0, 0, .null, []),
  (363, .aload_n 0, 364, 0, 0, 0, 0, .null, []),
  (364, .iconst 2, 365, 0, 0, 0, 0, .int (nI 2), []),
  (365, .invokevirtual 13, 368, 18, 0, 16, 255, .retAddr 2, []),
  (368, .iload_n 1, 369, 0, 0, 0, 0, .null, []),
  (369, .if_icmp .gt 112, 372, 481, 0, 0, 0, .null, []),
  (372, .aload_n 0, 373, 0, 0, 0, 0, .null, []),
  (373, .bipush 11, 375, 0, 0, 0, 0, .int (nI 11), []),
  (375, .invokevirtual 13, 378, 18, 0, 16, 255, .retAddr 2, [])]
def cd97_4 : List En := [(378, .ifCond .le 103, 381, 481, 0, 0, 0, .null, []),
  (381, .iload_n 2, 382, 0, 0, 0, 0, .null, []),
  (382, .ifCond .eq 21, 385, 403, 0, 0, 0, .null, []),
  (385, .aload_n 0, 386, 0, 0, 0, 0, .null, []),
  (386, .iconst 0, 387, 0, 0, 0, 0, .int (nI 0), []),
  (387, .iconst 1, 388, 0, 0, 0, 0, .int (nI 1), []),
  (388, .invokevirtual 23, 391, 10, 0, 16, 336, .retAddr 3, []),
  (391, .ifCond .ne 90, 394, 481, 0, 0, 0, .null, []),
  (394, .aload_n 0, 395, 0, 0, 0, 0, .null, []),
  (395, .iconst 0, 396, 0, 0, 0, 0, .int (nI 0), []),
  (396, .iconst 3, 397, 0, 0, 0, 0, .int (nI 3), []),
  (397, .invokevirtual 23, 400, 10, 0, 16, 336, .retAddr 3, []),
  (400, .ifCond .ne 81, 403, 481, 0, 0, 0, .null, []),
  (403, .aload_n 0, 404, 0, 0, 0, 0, .null, []),
  (404, .iconst 0, 405, 0, 0, 0, 0, .int (nI 0), []),
  (405, .invokevirtual 26, 408, 11, 0, 16, 377, .retAddr 2, []),
  (408, .ldc 34, 410, 0, 0, 0, 393, .int ((-1000000004)), []),
  (410, .if_icmp .ne 7, 413, 417, 0, 0, 0, .null, []),
  (413, .iconst 1, 414, 0, 0, 0, 0, .int (nI 1), []),
  (414, .goto 4, 417, 418, 0, 0, 0, .null, []),
  (417, .iconst 0, 418, 0, 0, 0, 0, .int (nI 0), []),
  (418, .aload_n 0, 419, 0, 0, 0, 0, .null, []),
  (419, .iconst 0, 420, 0, 0, 0, 0, .int (nI 0), []),
  (420, .invokevirtual 29, 423, 12, 0, 16, 382, .retAddr 2, []),
  (423, .ldc 34, 425, 0, 0, 0, 393, .int ((-1000000004)), []),
  (425, .if_icmp .ne 7, 428, 432, 0, 0, 0, .null, []),
  (428, .iconst 1, 429, 0, 0, 0, 0, .int (nI 1), []),
  (429, .goto 4, 432, 433, 0, 0, 0, .null, []),
  (432, .iconst 0, 433, 0, 0, 0, 0, .int (nI 0), []),
  (433, .if_icmp .ne 48, 436, 481, 0, 0, 0, .null, []),
  (436, .aload_n 0, 437, 0, 0, 0, 0, .null, []),
  (437, .iconst 0, 438, 0, 0, 0, 0, .int (nI 0), []),
  (438, .invokevirtual 26, 441, 11, 0, 16, 377, .retAddr 2, []),
  (441, .ldc 34, 443, 0, 0, 0, 393, .int ((-1000000004)), []),
  (443, .if_icmp .eq 34, 446, 477, 0, 0, 0, .null, []),
  (446, .aload_n 0, 447, 0, 0, 0, 0, .null, []),
  (447, .aload_n 0, 448, 0, 0, 0, 0, .null, []),
  (448, .iconst 1, 449, 0, 0, 0, 0, .int (nI 1), []),
  (449, .invokevirtual 26, 452, 11, 0, 16, 377, .retAddr 2, []),
  (452, .invokevirtual 29, 455, 12, 0, 16, 382, .retAddr 2, []),
  (455, .aload_n 0, 456, 0, 0, 0, 0, .null, []),
  (456, .bipush 10, 458, 0, 0, 0, 0, .int (nI 10), []),
  (458, .invokevirtual 13, 461, 18, 0, 16, 255, .retAddr 2, []),
  (461, .if_icmp .ne 20, 464, 481, 0, 0, 0, .null, []),
  (464, .aload_n 0, 465, 0, 0, 0, 0, .null, []),
  (465, .iconst 2, 466, 0, 0, 0, 0, .int (nI 2), []),
  (466, .invokevirtual 26, 469, 11, 0, 16, 377, .retAddr 2, []),
  (469, .aload_n 0, 470, 0, 0, 0, 0, .null, []),
  (470, .iconst 3, 471, 0, 0, 0, 0, .int (nI 3), []),
  (471, .invokevirtual 13, 474, 18, 0, 16, 255, .retAddr 2, [])]
def cd97_5 : List En := [(474, .if_icmp .ge 7, 477, 481, 0, 0, 0, .null, []),
  (477, .iconst 1, 478, 0, 0, 0, 0, .int (nI 1), []),
  (478, .goto 4, 481, 482, 0, 0, 0, .null, []),
  (481, .iconst 0, 482, 0, 0, 0, 0, .int (nI 0), []),
  (482, .ireturn, 483, 0, 0, 0, 0, .int 1, [])]
def cd97 : List En := cd97_0 ++ (cd97_1 ++ (cd97_2 ++ (cd97_3 ++ (cd97_4 ++ (cd97_5)))))
def cd98_0 : List En := [(0, .iload_n 1, 1, 0, 0, 0, 0, .null, []),
  (1, .bipush 7, 3, 0, 0, 0, 0, .int (nI 7), []),
  (3, .invokestatic 38, 6, 95, 0, 0, 310, .retAddr 2, []),
  (6, .istore_n 2, 7, 0, 0, 0, 0, .null, []),
  (7, .aload_n 0, 8, 0, 0, 0, 0, .null, []),
  (8, .iload_n 2, 9, 0, 0, 0, 0, .null, []),
  (9, .iconst 0, 10, 0, 0, 0, 0, .int (nI 0), []),
  (10, .invokevirtual 41, 13, 17, 1, 16, 411, .retAddr 3, []),
  (13, .istore_n 3, 14, 0, 0, 0, 0, .null, []),
  (14, .aload_n 0, 15, 0, 0, 0, 0, .null, []),
  (15, .iload_n 2, 16, 0, 0, 0, 0, .null, []),
  (16, .iconst 1, 17, 0, 0, 0, 0, .int (nI 1), []),
  (17, .invokevirtual 41, 20, 17, 1, 16, 411, .retAddr 3, []),
  (20, .istore 4, 22, 0, 0, 0, 0, .null, []),
  (22, .iload_n 2, 23, 0, 0, 0, 0, .null, []),
  (23, .aload_n 0, 24, 0, 0, 0, 0, .null, []),
  (24, .bipush 20, 26, 0, 0, 0, 0, .int (nI 20), []),
  (26, .invokevirtual 13, 29, 18, 0, 16, 255, .retAddr 2, []),
  (29, .imul, 30, 0, 0, 0, 0, .null, []),
  (30, .istore 5, 32, 0, 0, 0, 0, .null, []),
  (32, .aload_n 0, 33, 0, 0, 0, 0, .null, []),
  (33, .iconst 0, 34, 0, 0, 0, 0, .int (nI 0), []),
  (34, .invokevirtual 44, 37, 16, 1, 16, 505, .retAddr 2, []),
  (37, .istore 6, 39, 0, 0, 0, 0, .null, []),
  (39, .aload_n 0, 40, 0, 0, 0, 0, .null, []),
  (40, .iconst 0, 41, 0, 0, 0, 0, .int (nI 0), []),
  (41, .invokevirtual 13, 44, 18, 0, 16, 255, .retAddr 2, []),
  (44, .iconst 2, 45, 0, 0, 0, 0, .int (nI 2), []),
  (45, .if_icmp .ge 47, 48, 92, 0, 0, 0, .null, []),
  (48, .iload_n 3, 49, 0, 0, 0, 0, .null, []),
  (49, .iload_n 2, 50, 0, 0, 0, 0, .null, []),
  (50, .ifCond .eq 9, 53, 59, 0, 0, 0, .null, []),
  (53, .iload_n 2, 54, 0, 0, 0, 0, .null, []),
  (54, .bipush 6, 56, 0, 0, 0, 0, .int (nI 6), []),
  (56, .if_icmp .ne 8, 59, 64, 0, 0, 0, .null, []),
  (59, .ldc 47, 61, 0, 0, 0, 513, .int ((-1000000001)), []),
  (61, .goto 5, 64, 66, 0, 0, 0, .null, []),
  (64, .ldc 48, 66, 0, 0, 0, 514, .int ((-1000000002)), []),
  (66, .if_icmp .ne 24, 69, 90, 0, 0, 0, .null, []),
  (69, .iload 6, 71, 0, 0, 0, 0, .null, []),
  (71, .ldc 48, 73, 0, 0, 0, 514, .int ((-1000000002)), []),
  (73, .if_icmp .ne 17, 76, 90, 0, 0, 0, .null, []),
  (76, .aload_n 0, 77, 0, 0, 0, 0, .null, []),
  (77, .iconst 1, 78, 0, 0, 0, 0, .int (nI 1), []),
  (78, .invokevirtual 49, 81, 14, 0, 16, 515, .retAddr 2, []),
  (81, .ldc 48, 83, 0, 0, 0, 514, .int ((-1000000002)), []),
  (83, .if_icmp .ne 7, 86, 90, 0, 0, 0, .null, []),
  (86, .iconst 1, 87, 0, 0, 0, 0, .int (nI 1), []),
  (87, .goto 4, 90, 91, 0, 0, 0, .null, []),
  (90, .iconst 0, 91, 0, 0, 0, 0, .int (nI 0), [])]
def cd98_1 : List En := [(91, .ireturn, 92, 0, 0, 0, 0, .int 1, []),
  (92, .aload_n 0, 93, 0, 0, 0, 0, .null, []),
  (93, .iconst 0, 94, 0, 0, 0, 0, .int (nI 0), []),
  (94, .invokevirtual 49, 97, 14, 0, 16, 515, .retAddr 2, []),
  (97, .istore 7, 99, 0, 0, 0, 0, .null, []),
  (99, .iload_n 2, 100, 0, 0, 0, 0, .null, []),
  (100, .ifCond .eq 9, 103, 109, 0, 0, 0, .null, []),
  (103, .iload_n 2, 104, 0, 0, 0, 0, .null, []),
  (104, .bipush 6, 106, 0, 0, 0, 0, .int (nI 6), []),
  (106, .if_icmp .ne 24, 109, 130, 0, 0, 0, .null, []),
  (109, .iload_n 3, 110, 0, 0, 0, 0, .null, []),
  (110, .ldc 47, 112, 0, 0, 0, 513, .int ((-1000000001)), []),
  (112, .if_icmp .ne 14, 115, 126, 0, 0, 0, .null, []),
  (115, .iload 4, 117, 0, 0, 0, 0, .null, []),
  (117, .ldc 47, 119, 0, 0, 0, 513, .int ((-1000000001)), []),
  (119, .if_icmp .ne 7, 122, 126, 0, 0, 0, .null, []),
  (122, .iconst 1, 123, 0, 0, 0, 0, .int (nI 1), []),
  (123, .goto 30, 126, 153, 0, 0, 0, .null, []),
  (126, .iconst 0, 127, 0, 0, 0, 0, .int (nI 0), []),
  (127, .goto 26, 130, 153, 0, 0, 0, .null, []),
  (130, .iload_n 3, 131, 0, 0, 0, 0, .null, []),
  (131, .ifCond .lt 21, 134, 152, 0, 0, 0, .null, []),
  (134, .iload 4, 136, 0, 0, 0, 0, .null, []),
  (136, .ifCond .lt 16, 139, 152, 0, 0, 0, .null, []),
  (139, .iload_n 3, 140, 0, 0, 0, 0, .null, []),
  (140, .iload 4, 142, 0, 0, 0, 0, .null, []),
  (142, .iadd, 143, 0, 0, 0, 0, .null, []),
  (143, .iload 5, 145, 0, 0, 0, 0, .null, []),
  (145, .if_icmp .gt 7, 148, 152, 0, 0, 0, .null, []),
  (148, .iconst 1, 149, 0, 0, 0, 0, .int (nI 1), []),
  (149, .goto 4, 152, 153, 0, 0, 0, .null, []),
  (152, .iconst 0, 153, 0, 0, 0, 0, .int (nI 0), []),
  (153, .istore 8, 155, 0, 0, 0, 0, .null, []),
  (155, .iload 8, 157, 0, 0, 0, 0, .null, []),
  (157, .ifCond .eq 131, 160, 288, 0, 0, 0, .null, []),
  (160, .iload 6, 162, 0, 0, 0, 0, .null, []),
  (162, .ifCond .lt 126, 165, 288, 0, 0, 0, .null, []),
  (165, .iload 6, 167, 0, 0, 0, 0, .null, []),
  (167, .iconst 2, 168, 0, 0, 0, 0, .int (nI 2), []),
  (168, .if_icmp .gt 120, 171, 288, 0, 0, 0, .null, []),
  (171, .iload 6, 173, 0, 0, 0, 0, .null, []),
  (173, .ifCond .ne 7, 176, 180, 0, 0, 0, .null, []),
  (176, .iconst 1, 177, 0, 0, 0, 0, .int (nI 1), []),
  (177, .goto 4, 180, 181, 0, 0, 0, .null, []),
  (180, .iconst 0, 181, 0, 0, 0, 0, .int (nI 0), []),
  (181, .aload_n 0, 182, 0, 0, 0, 0, .null, []),
  (182, .iconst 2, 183, 0, 0, 0, 0, .int (nI 2), []),
  (183, .invokevirtual 44, 186, 16, 1, 16, 505, .retAddr 2, []),
  (186, .aload_n 0, 187, 0, 0, 0, 0, .null, []),
  (187, .bipush 10, 189, 0, 0, 0, 0, .int (nI 10), [])]
def cd98_2 : List En := [(189, .invokevirtual 13, 192, 18, 0, 16, 255, .retAddr 2, []),
  (192, .if_icmp .ne 7, 195, 199, 0, 0, 0, .null, []),
  (195, .iconst 1, 196, 0, 0, 0, 0, .int (nI 1), []),
  (196, .goto 4, 199, 200, 0, 0, 0, .null, []),
  (199, .iconst 0, 200, 0, 0, 0, 0, .int (nI 0), []),
  (200, .if_icmp .ne 88, 203, 288, 0, 0, 0, .null, []),
  (203, .aload_n 0, 204, 0, 0, 0, 0, .null, []),
  (204, .iconst 1, 205, 0, 0, 0, 0, .int (nI 1), []),
  (205, .invokevirtual 44, 208, 16, 1, 16, 505, .retAddr 2, []),
  (208, .ifCond .lt 80, 211, 288, 0, 0, 0, .null, []),
  (211, .aload_n 0, 212, 0, 0, 0, 0, .null, []),
  (212, .iconst 1, 213, 0, 0, 0, 0, .int (nI 1), []),
  (213, .invokevirtual 44, 216, 16, 1, 16, 505, .retAddr 2, []),
  (216, .aload_n 0, 217, 0, 0, 0, 0, .null, []),
  (217, .bipush 26, 219, 0, 0, 0, 0, .int (nI 26), []),
  (219, .invokevirtual 13, 222, 18, 0, 16, 255, .retAddr 2, []),
  (222, .if_icmp .gt 66, 225, 288, 0, 0, 0, .null, []),
  (225, .iload 7, 227, 0, 0, 0, 0, .null, []),
  (227, .ifCond .lt 61, 230, 288, 0, 0, 0, .null, []),
  (230, .iload 7, 232, 0, 0, 0, 0, .null, []),
  (232, .sipush 180, 235, 0, 0, 0, 0, .int (nI 180), []),
  (235, .if_icmp .gt 53, 238, 288, 0, 0, 0, .null, []),
  (238, .aload_n 0, 239, 0, 0, 0, 0, .null, []),
  (239, .iconst 1, 240, 0, 0, 0, 0, .int (nI 1), []),
  (240, .invokevirtual 49, 243, 14, 0, 16, 515, .retAddr 2, []),
  (243, .aload_n 0, 244, 0, 0, 0, 0, .null, []),
  (244, .iconst 0, 245, 0, 0, 0, 0, .int (nI 0), []),
  (245, .invokevirtual 13, 248, 18, 0, 16, 255, .retAddr 2, []),
  (248, .if_icmp .ge 40, 251, 288, 0, 0, 0, .null, []),
  (251, .aload_n 0, 252, 0, 0, 0, 0, .null, []),
  (252, .invokevirtual 52, 255, 15, 1, 16, 536, .retAddr 1, []),
  (255, .ldc 34, 257, 0, 0, 0, 393, .int ((-1000000004)), []),
  (257, .if_icmp .eq 27, 260, 284, 0, 0, 0, .null, []),
  (260, .aload_n 0, 261, 0, 0, 0, 0, .null, []),
  (261, .invokevirtual 52, 264, 15, 1, 16, 536, .retAddr 1, []),
  (264, .aload_n 0, 265, 0, 0, 0, 0, .null, []),
  (265, .iconst 0, 266, 0, 0, 0, 0, .int (nI 0), []),
  (266, .invokevirtual 26, 269, 11, 0, 16, 377, .retAddr 2, []),
  (269, .aload_n 0, 270, 0, 0, 0, 0, .null, []),
  (270, .aload_n 0, 271, 0, 0, 0, 0, .null, []),
  (271, .bipush 10, 273, 0, 0, 0, 0, .int (nI 10), []),
  (273, .invokevirtual 13, 276, 18, 0, 16, 255, .retAddr 2, []),
  (276, .iconst 3, 277, 0, 0, 0, 0, .int (nI 3), []),
  (277, .invokevirtual 23, 280, 10, 0, 16, 336, .retAddr 3, []),
  (280, .isub, 281, 0, 0, 0, 0, .null, []),
  (281, .if_icmp .ne 7, 284, 288, 0, 0, 0, .null, []),
  (284, .iconst 1, 285, 0, 0, 0, 0, .int (nI 1), []),
  (285, .goto 4, 288, 289, 0, 0, 0, .null, []),
  (288, .iconst 0, 289, 0, 0, 0, 0, .int (nI 0), []),
  (289, .ireturn, 290, 0, 0, 0, 0, .int 1, [])]
def cd98 : List En := cd98_0 ++ (cd98_1 ++ (cd98_2))
def cd99 : List En := [(0, .iload_n 1, 1, 0, 0, 0, 0, .null, []),
  (1, .sipush 1000, 4, 0, 0, 0, 0, .int (nI 1000), []),
  (4, .if_icmp .lt 18, 7, 22, 0, 0, 0, .null, []),
  (7, .aload_n 0, 8, 0, 0, 0, 0, .null, []),
  (8, .bipush 48, 10, 0, 0, 0, 0, .int (nI 48), []),
  (10, .iload_n 1, 11, 0, 0, 0, 0, .null, []),
  (11, .sipush 1000, 14, 0, 0, 0, 0, .int (nI 1000), []),
  (14, .idiv, 15, 0, 0, 0, 0, .null, []),
  (15, .iadd, 16, 0, 0, 0, 0, .null, []),
  (16, .invokevirtual 56, 19, 20, 0, 16, 634, .retAddr 2, []),
  (19, .ifCond .le 67, 22, 86, 0, 0, 0, .null, []),
  (22, .iload_n 1, 23, 0, 0, 0, 0, .null, []),
  (23, .bipush 100, 25, 0, 0, 0, 0, .int (nI 100), []),
  (25, .if_icmp .lt 20, 28, 45, 0, 0, 0, .null, []),
  (28, .aload_n 0, 29, 0, 0, 0, 0, .null, []),
  (29, .bipush 48, 31, 0, 0, 0, 0, .int (nI 48), []),
  (31, .iload_n 1, 32, 0, 0, 0, 0, .null, []),
  (32, .bipush 100, 34, 0, 0, 0, 0, .int (nI 100), []),
  (34, .idiv, 35, 0, 0, 0, 0, .null, []),
  (35, .bipush 10, 37, 0, 0, 0, 0, .int (nI 10), []),
  (37, .irem, 38, 0, 0, 0, 0, .null, []),
  (38, .iadd, 39, 0, 0, 0, 0, .null, []),
  (39, .invokevirtual 56, 42, 20, 0, 16, 634, .retAddr 2, []),
  (42, .ifCond .le 44, 45, 86, 0, 0, 0, .null, []),
  (45, .iload_n 1, 46, 0, 0, 0, 0, .null, []),
  (46, .bipush 10, 48, 0, 0, 0, 0, .int (nI 10), []),
  (48, .if_icmp .lt 20, 51, 68, 0, 0, 0, .null, []),
  (51, .aload_n 0, 52, 0, 0, 0, 0, .null, []),
  (52, .bipush 48, 54, 0, 0, 0, 0, .int (nI 48), []),
  (54, .iload_n 1, 55, 0, 0, 0, 0, .null, []),
  (55, .bipush 10, 57, 0, 0, 0, 0, .int (nI 10), []),
  (57, .idiv, 58, 0, 0, 0, 0, .null, []),
  (58, .bipush 10, 60, 0, 0, 0, 0, .int (nI 10), []),
  (60, .irem, 61, 0, 0, 0, 0, .null, []),
  (61, .iadd, 62, 0, 0, 0, 0, .null, []),
  (62, .invokevirtual 56, 65, 20, 0, 16, 634, .retAddr 2, []),
  (65, .ifCond .le 21, 68, 86, 0, 0, 0, .null, []),
  (68, .aload_n 0, 69, 0, 0, 0, 0, .null, []),
  (69, .bipush 48, 71, 0, 0, 0, 0, .int (nI 48), []),
  (71, .iload_n 1, 72, 0, 0, 0, 0, .null, []),
  (72, .bipush 10, 74, 0, 0, 0, 0, .int (nI 10), []),
  (74, .irem, 75, 0, 0, 0, 0, .null, []),
  (75, .iadd, 76, 0, 0, 0, 0, .null, []),
  (76, .invokevirtual 56, 79, 20, 0, 16, 634, .retAddr 2, []),
  (79, .ifCond .le 7, 82, 86, 0, 0, 0, .null, []),
  (82, .iconst 1, 83, 0, 0, 0, 0, .int (nI 1), []),
  (83, .goto 4, 86, 87, 0, 0, 0, .null, []),
  (86, .iconst 0, 87, 0, 0, 0, 0, .int (nI 0), []),
  (87, .ireturn, 88, 0, 0, 0, 0, .int 1, [])]
def cd100_0 : List En := [(0, .iload_n 1, 1, 0, 0, 0, 0, .null, []),
  (1, .iconst 5, 2, 0, 0, 0, 0, .int (nI 5), []),
  (2, .invokestatic 38, 5, 95, 0, 0, 310, .retAddr 2, []),
  (5, .istore_n 2, 6, 0, 0, 0, 0, .null, []),
  (6, .aload_n 0, 7, 0, 0, 0, 0, .null, []),
  (7, .invokevirtual 59, 10, 21, 0, 16, 626, .retAddr 1, []),
  (10, .ifCond .lt 7, 13, 17, 0, 0, 0, .null, []),
  (13, .iconst 1, 14, 0, 0, 0, 0, .int (nI 1), []),
  (14, .goto 4, 17, 18, 0, 0, 0, .null, []),
  (17, .iconst 0, 18, 0, 0, 0, 0, .int (nI 0), []),
  (18, .istore_n 3, 19, 0, 0, 0, 0, .null, []),
  (19, .iconst 0, 20, 0, 0, 0, 0, .int (nI 0), []),
  (20, .istore 4, 22, 0, 0, 0, 0, .null, []),
  (22, .iload 4, 24, 0, 0, 0, 0, .null, []),
  (24, .iload_n 2, 25, 0, 0, 0, 0, .null, []),
  (25, .if_icmp .ge 323, 28, 348, 0, 0, 0, .null, []),
  (28, .iload_n 1, 29, 0, 0, 0, 0, .null, []),
  (29, .iconst 3, 30, 0, 0, 0, 0, .int (nI 3), []),
  (30, .iconst 5, 31, 0, 0, 0, 0, .int (nI 5), []),
  (31, .iload 4, 33, 0, 0, 0, 0, .null, []),
  (33, .imul, 34, 0, 0, 0, 0, .null, []),
  (34, .iadd, 35, 0, 0, 0, 0, .null, []),
  (35, .ishr, 36, 0, 0, 0, 0, .null, []),
  (36, .istore 5, 38, 0, 0, 0, 0, .null, []),
  (38, .iload 5, 40, 0, 0, 0, 0, .null, []),
  (40, .bipush 12, 42, 0, 0, 0, 0, .int (nI 12), []),
  (42, .invokestatic 38, 45, 95, 0, 0, 310, .retAddr 2, []),
  (45, .istore 6, 47, 0, 0, 0, 0, .null, []),
  (47, .iload 6, 49, 0, 0, 0, 0, .null, []),
  (49, .iconst 3, 50, 0, 0, 0, 0, .int (nI 3), []),
  (50, .if_icmp .ge 7, 53, 57, 0, 0, 0, .null, []),
  (53, .iconst 3, 54, 0, 0, 0, 0, .int (nI 3), []),
  (54, .goto 14, 57, 68, 0, 0, 0, .null, []),
  (57, .iload 6, 59, 0, 0, 0, 0, .null, []),
  (59, .iconst 3, 60, 0, 0, 0, 0, .int (nI 3), []),
  (60, .if_icmp .ne 7, 63, 67, 0, 0, 0, .null, []),
  (63, .iconst 2, 64, 0, 0, 0, 0, .int (nI 2), []),
  (64, .goto 4, 67, 68, 0, 0, 0, .null, []),
  (67, .iconst 1, 68, 0, 0, 0, 0, .int (nI 1), []),
  (68, .istore 7, 70, 0, 0, 0, 0, .null, []),
  (70, .iload_n 3, 71, 0, 0, 0, 0, .null, []),
  (71, .ifCond .eq 91, 74, 162, 0, 0, 0, .null, []),
  (74, .aload_n 0, 75, 0, 0, 0, 0, .null, []),
  (75, .iload_n 1, 76, 0, 0, 0, 0, .null, []),
  (76, .bipush 23, 78, 0, 0, 0, 0, .int (nI 23), []),
  (78, .ishr, 79, 0, 0, 0, 0, .null, []),
  (79, .bipush 17, 81, 0, 0, 0, 0, .int (nI 17), []),
  (81, .invokestatic 38, 84, 95, 0, 0, 310, .retAddr 2, []),
  (84, .ifCond .ne 8, 87, 92, 0, 0, 0, .null, []),
  (87, .bipush 113, 89, 0, 0, 0, 0, .int (nI 113), [])]
def cd100_1 : List En := [(89, .goto 63, 92, 152, 0, 0, 0, .null, []),
  (92, .iload 6, 94, 0, 0, 0, 0, .null, []),
  (94, .iconst 3, 95, 0, 0, 0, 0, .int (nI 3), []),
  (95, .if_icmp .ge 8, 98, 103, 0, 0, 0, .null, []),
  (98, .bipush 112, 100, 0, 0, 0, 0, .int (nI 112), []),
  (100, .goto 52, 103, 152, 0, 0, 0, .null, []),
  (103, .iload 6, 105, 0, 0, 0, 0, .null, []),
  (105, .iconst 3, 106, 0, 0, 0, 0, .int (nI 3), []),
  (106, .if_icmp .ne 8, 109, 114, 0, 0, 0, .null, []),
  (109, .bipush 115, 111, 0, 0, 0, 0, .int (nI 115), []),
  (111, .goto 41, 114, 152, 0, 0, 0, .null, []),
  (114, .iload 6, 116, 0, 0, 0, 0, .null, []),
  (116, .bipush 6, 118, 0, 0, 0, 0, .int (nI 6), []),
  (118, .if_icmp .ge 8, 121, 126, 0, 0, 0, .null, []),
  (121, .bipush 99, 123, 0, 0, 0, 0, .int (nI 99), []),
  (123, .goto 29, 126, 152, 0, 0, 0, .null, []),
  (126, .iload 6, 128, 0, 0, 0, 0, .null, []),
  (128, .bipush 8, 130, 0, 0, 0, 0, .int (nI 8), []),
  (130, .if_icmp .ge 8, 133, 138, 0, 0, 0, .null, []),
  (133, .bipush 111, 135, 0, 0, 0, 0, .int (nI 111), []),
  (135, .goto 17, 138, 152, 0, 0, 0, .null, []),
  (138, .iload 6, 140, 0, 0, 0, 0, .null, []),
  (140, .bipush 8, 142, 0, 0, 0, 0, .int (nI 8), []),
  (142, .if_icmp .ne 8, 145, 150, 0, 0, 0, .null, []),
  (145, .bipush 102, 147, 0, 0, 0, 0, .int (nI 102), []),
  (147, .goto 5, 150, 152, 0, 0, 0, .null, []),
  (150, .bipush 108, 152, 0, 0, 0, 0, .int (nI 108), []),
  (152, .invokevirtual 56, 155, 20, 0, 16, 634, .retAddr 2, []),
  (155, .ifCond .le 7, 158, 162, 0, 0, 0, .null, []),
  (158, .iconst 1, 159, 0, 0, 0, 0, .int (nI 1), []),
  (159, .goto 4, 162, 163, 0, 0, 0, .null, []),
  (162, .iconst 0, 163, 0, 0, 0, 0, .int (nI 0), []),
  (163, .istore_n 3, 164, 0, 0, 0, 0, .null, []),
  (164, .iconst 0, 165, 0, 0, 0, 0, .int (nI 0), []),
  (165, .istore 8, 167, 0, 0, 0, 0, .null, []),
  (167, .iload 8, 169, 0, 0, 0, 0, .null, []),
  (169, .iload 7, 171, 0, 0, 0, 0, .null, []),
  (171, .if_icmp .ge 133, 174, 304, 0, 0, 0, .null, []),
  (174, .iload 6, 176, 0, 0, 0, 0, .null, []),
  (176, .iconst 3, 177, 0, 0, 0, 0, .int (nI 3), []),
  (177, .if_icmp .ne 36, 180, 213, 0, 0, 0, .null, []),
  (180, .iload 8, 182, 0, 0, 0, 0, .null, []),
  (182, .iconst 1, 183, 0, 0, 0, 0, .int (nI 1), []),
  (183, .if_icmp .ne 30, 186, 213, 0, 0, 0, .null, []),
  (186, .iload 5, 188, 0, 0, 0, 0, .null, []),
  (188, .iconst 3, 189, 0, 0, 0, 0, .int (nI 3), []),
  (189, .ishr, 190, 0, 0, 0, 0, .null, []),
  (190, .iload 5, 192, 0, 0, 0, 0, .null, []),
  (192, .iconst 3, 193, 0, 0, 0, 0, .int (nI 3), []),
  (193, .invokestatic 38, 196, 95, 0, 0, 310, .retAddr 2, [])]
def cd100_2 : List En := [(196, .ifCond .ne 9, 199, 205, 0, 0, 0, .null, []),
  (199, .sipush 1200, 202, 0, 0, 0, 0, .int (nI 1200), []),
  (202, .goto 5, 205, 207, 0, 0, 0, .null, []),
  (205, .bipush 50, 207, 0, 0, 0, 0, .int (nI 50), []),
  (207, .invokestatic 38, 210, 95, 0, 0, 310, .retAddr 2, []),
  (210, .goto 36, 213, 246, 0, 0, 0, .null, []),
  (213, .iload 5, 215, 0, 0, 0, 0, .null, []),
  (215, .iconst 2, 216, 0, 0, 0, 0, .int (nI 2), []),
  (216, .iload 8, 218, 0, 0, 0, 0, .null, []),
  (218, .imul, 219, 0, 0, 0, 0, .null, []),
  (219, .ishr, 220, 0, 0, 0, 0, .null, []),
  (220, .iload 6, 222, 0, 0, 0, 0, .null, []),
  (222, .iconst 3, 223, 0, 0, 0, 0, .int (nI 3), []),
  (223, .if_icmp .ne 8, 226, 231, 0, 0, 0, .null, []),
  (226, .bipush 8, 228, 0, 0, 0, 0, .int (nI 8), []),
  (228, .goto 15, 231, 243, 0, 0, 0, .null, []),
  (231, .iload 8, 233, 0, 0, 0, 0, .null, []),
  (233, .iconst 2, 234, 0, 0, 0, 0, .int (nI 2), []),
  (234, .if_icmp .ne 8, 237, 242, 0, 0, 0, .null, []),
  (237, .bipush 22, 239, 0, 0, 0, 0, .int (nI 22), []),
  (239, .goto 4, 242, 243, 0, 0, 0, .null, []),
  (242, .iconst 5, 243, 0, 0, 0, 0, .int (nI 5), []),
  (243, .invokestatic 38, 246, 95, 0, 0, 310, .retAddr 2, []),
  (246, .istore 9, 248, 0, 0, 0, 0, .null, []),
  (248, .iload_n 3, 249, 0, 0, 0, 0, .null, []),
  (249, .ifCond .eq 47, 252, 296, 0, 0, 0, .null, []),
  (252, .iload 8, 254, 0, 0, 0, 0, .null, []),
  (254, .ifCond .eq 29, 257, 283, 0, 0, 0, .null, []),
  (257, .aload_n 0, 258, 0, 0, 0, 0, .null, []),
  (258, .iload_n 1, 259, 0, 0, 0, 0, .null, []),
  (259, .bipush 20, 261, 0, 0, 0, 0, .int (nI 20), []),
  (261, .ishr, 262, 0, 0, 0, 0, .null, []),
  (262, .bipush 19, 264, 0, 0, 0, 0, .int (nI 19), []),
  (264, .invokestatic 38, 267, 95, 0, 0, 310, .retAddr 2, []),
  (267, .ifCond .ne 8, 270, 275, 0, 0, 0, .null, []),
  (270, .bipush 46, 272, 0, 0, 0, 0, .int (nI 46), []),
  (272, .goto 5, 275, 277, 0, 0, 0, .null, []),
  (275, .bipush 44, 277, 0, 0, 0, 0, .int (nI 44), []),
  (277, .invokevirtual 56, 280, 20, 0, 16, 634, .retAddr 2, []),
  (280, .ifCond .le 16, 283, 296, 0, 0, 0, .null, []),
  (283, .aload_n 0, 284, 0, 0, 0, 0, .null, []),
  (284, .iload 9, 286, 0, 0, 0, 0, .null, []),
  (286, .invokestatic 62, 289, 99, 0, 0, 645, .retAddr 2, []),
  (289, .ifCond .eq 7, 292, 296, 0, 0, 0, .null, []),
  (292, .iconst 1, 293, 0, 0, 0, 0, .int (nI 1), []),
  (293, .goto 4, 296, 297, 0, 0, 0, .null, []),
  (296, .iconst 0, 297, 0, 0, 0, 0, .int (nI 0), []),
  (297, .istore_n 3, 298, 0, 0, 0, 0, .null, []),
  (298, .iinc 8 1, 301, 0, 0, 0, 0, .null, []),
  (301, .goto (-134), 304, 167, 0, 0, 0, .null, [])]
def cd100_3 : List En := [(304, .iload_n 3, 305, 0, 0, 0, 0, .null, []),
  (305, .ifCond .eq 35, 308, 340, 0, 0, 0, .null, []),
  (308, .iload_n 1, 309, 0, 0, 0, 0, .null, []),
  (309, .bipush 26, 311, 0, 0, 0, 0, .int (nI 26), []),
  (311, .ishr, 312, 0, 0, 0, 0, .null, []),
  (312, .iconst 5, 313, 0, 0, 0, 0, .int (nI 5), []),
  (313, .invokestatic 38, 316, 95, 0, 0, 310, .retAddr 2, []),
  (316, .ifCond .ne 11, 319, 327, 0, 0, 0, .null, []),
  (319, .iload 4, 321, 0, 0, 0, 0, .null, []),
  (321, .iload_n 2, 322, 0, 0, 0, 0, .null, []),
  (322, .iconst 1, 323, 0, 0, 0, 0, .int (nI 1), []),
  (323, .isub, 324, 0, 0, 0, 0, .null, []),
  (324, .if_icmp .eq 12, 327, 336, 0, 0, 0, .null, []),
  (327, .aload_n 0, 328, 0, 0, 0, 0, .null, []),
  (328, .bipush 59, 330, 0, 0, 0, 0, .int (nI 59), []),
  (330, .invokevirtual 56, 333, 20, 0, 16, 634, .retAddr 2, []),
  (333, .ifCond .le 7, 336, 340, 0, 0, 0, .null, []),
  (336, .iconst 1, 337, 0, 0, 0, 0, .int (nI 1), []),
  (337, .goto 4, 340, 341, 0, 0, 0, .null, []),
  (340, .iconst 0, 341, 0, 0, 0, 0, .int (nI 0), []),
  (341, .istore_n 3, 342, 0, 0, 0, 0, .null, []),
  (342, .iinc 4 1, 345, 0, 0, 0, 0, .null, []),
  (345, .goto (-323), 348, 22, 0, 0, 0, .null, []),
  (348, .iload_n 3, 349, 0, 0, 0, 0, .null, []),
  (349, .ireturn, 350, 0, 0, 0, 0, .int 1, [])]
def cd100 : List En := cd100_0 ++ (cd100_1 ++ (cd100_2 ++ (cd100_3)))
def cd101_0 : List En := [(0, .aload_n 0, 1, 0, 0, 0, 0, .null, []),
  (1, .iconst 0, 2, 0, 0, 0, 0, .int (nI 0), []),
  (2, .invokevirtual 66, 5, 22, 0, 16, 651, .retAddr 2, []),
  (5, .istore_n 1, 6, 0, 0, 0, 0, .null, []),
  (6, .aload_n 0, 7, 0, 0, 0, 0, .null, []),
  (7, .iconst 1, 8, 0, 0, 0, 0, .int (nI 1), []),
  (8, .invokevirtual 66, 11, 22, 0, 16, 651, .retAddr 2, []),
  (11, .istore_n 2, 12, 0, 0, 0, 0, .null, []),
  (12, .aload_n 0, 13, 0, 0, 0, 0, .null, []),
  (13, .iconst 2, 14, 0, 0, 0, 0, .int (nI 2), []),
  (14, .invokevirtual 66, 17, 22, 0, 16, 651, .retAddr 2, []),
  (17, .istore_n 3, 18, 0, 0, 0, 0, .null, []),
  (18, .aload_n 0, 19, 0, 0, 0, 0, .null, []),
  (19, .bipush 13, 21, 0, 0, 0, 0, .int (nI 13), []),
  (21, .invokevirtual 13, 24, 18, 0, 16, 255, .retAddr 2, []),
  (24, .istore 4, 26, 0, 0, 0, 0, .null, []),
  (26, .aload_n 0, 27, 0, 0, 0, 0, .null, []),
  (27, .invokevirtual 69, 30, 23, 1, 16, 692, .retAddr 1, []),
  (30, .istore 5, 32, 0, 0, 0, 0, .null, []),
  (32, .iload_n 1, 33, 0, 0, 0, 0, .null, []),
  (33, .ldc 34, 35, 0, 0, 0, 393, .int ((-1000000004)), []),
  (35, .if_icmp .ne 33, 38, 68, 0, 0, 0, .null, []),
  (38, .iload_n 2, 39, 0, 0, 0, 0, .null, []),
  (39, .ldc 34, 41, 0, 0, 0, 393, .int ((-1000000004)), []),
  (41, .if_icmp .ne 27, 44, 68, 0, 0, 0, .null, []),
  (44, .iload_n 3, 45, 0, 0, 0, 0, .null, []),
  (45, .ldc 34, 47, 0, 0, 0, 393, .int ((-1000000004)), []),
  (47, .if_icmp .ne 21, 50, 68, 0, 0, 0, .null, []),
  (50, .iload 5, 52, 0, 0, 0, 0, .null, []),
  (52, .ifCond .lt 16, 55, 68, 0, 0, 0, .null, []),
  (55, .iconst 3, 56, 0, 0, 0, 0, .int (nI 3), []),
  (56, .iload 5, 58, 0, 0, 0, 0, .null, []),
  (58, .imul, 59, 0, 0, 0, 0, .null, []),
  (59, .iload 4, 61, 0, 0, 0, 0, .null, []),
  (61, .if_icmp .gt 7, 64, 68, 0, 0, 0, .null, []),
  (64, .iconst 1, 65, 0, 0, 0, 0, .int (nI 1), []),
  (65, .goto 4, 68, 69, 0, 0, 0, .null, []),
  (68, .iconst 0, 69, 0, 0, 0, 0, .int (nI 0), []),
  (69, .istore 6, 71, 0, 0, 0, 0, .null, []),
  (71, .iload_n 1, 72, 0, 0, 0, 0, .null, []),
  (72, .ifCond .lt 52, 75, 124, 0, 0, 0, .null, []),
  (75, .iload_n 1, 76, 0, 0, 0, 0, .null, []),
  (76, .iload 4, 78, 0, 0, 0, 0, .null, []),
  (78, .if_icmp .ge 46, 81, 124, 0, 0, 0, .null, []),
  (81, .iload 5, 83, 0, 0, 0, 0, .null, []),
  (83, .ldc 48, 85, 0, 0, 0, 514, .int ((-1000000002)), []),
  (85, .if_icmp .ne 39, 88, 124, 0, 0, 0, .null, []),
  (88, .iload_n 2, 89, 0, 0, 0, 0, .null, []),
  (89, .iconst 1, 90, 0, 0, 0, 0, .int (nI 1), []),
  (90, .if_icmp .ne 15, 93, 105, 0, 0, 0, .null, [])]
def cd101_1 : List En := [(93, .iload_n 3, 94, 0, 0, 0, 0, .null, []),
  (94, .ifCond .lt 11, 97, 105, 0, 0, 0, .null, []),
  (97, .iload_n 3, 98, 0, 0, 0, 0, .null, []),
  (98, .iload 4, 100, 0, 0, 0, 0, .null, []),
  (100, .iload_n 1, 101, 0, 0, 0, 0, .null, []),
  (101, .isub, 102, 0, 0, 0, 0, .null, []),
  (102, .if_icmp .le 18, 105, 120, 0, 0, 0, .null, []),
  (105, .iload_n 2, 106, 0, 0, 0, 0, .null, []),
  (106, .iconst 2, 107, 0, 0, 0, 0, .int (nI 2), []),
  (107, .if_icmp .ne 17, 110, 124, 0, 0, 0, .null, []),
  (110, .iload_n 3, 111, 0, 0, 0, 0, .null, []),
  (111, .ifCond .ge 13, 114, 124, 0, 0, 0, .null, []),
  (114, .iload_n 3, 115, 0, 0, 0, 0, .null, []),
  (115, .ldc 34, 117, 0, 0, 0, 393, .int ((-1000000004)), []),
  (117, .if_icmp .le 7, 120, 124, 0, 0, 0, .null, []),
  (120, .iconst 1, 121, 0, 0, 0, 0, .int (nI 1), []),
  (121, .goto 4, 124, 125, 0, 0, 0, .null, []),
  (124, .iconst 0, 125, 0, 0, 0, 0, .int (nI 0), []),
  (125, .istore 7, 127, 0, 0, 0, 0, .null, []),
  (127, .iload 6, 129, 0, 0, 0, 0, .null, []),
  (129, .ifCond .ne 8, 132, 137, 0, 0, 0, .null, []),
  (132, .iload 7, 134, 0, 0, 0, 0, .null, []),
  (134, .ifCond .eq 18, 137, 152, 0, 0, 0, .null, []),
  (137, .aload_n 0, 138, 0, 0, 0, 0, .null, []),
  (138, .bipush 13, 140, 0, 0, 0, 0, .int (nI 13), []),
  (140, .invokevirtual 13, 143, 18, 0, 16, 255, .retAddr 2, []),
  (143, .iload 4, 145, 0, 0, 0, 0, .null, []),
  (145, .if_icmp .ne 7, 148, 152, 0, 0, 0, .null, []),
  (148, .iconst 1, 149, 0, 0, 0, 0, .int (nI 1), []),
  (149, .goto 4, 152, 153, 0, 0, 0, .null, []),
  (152, .iconst 0, 153, 0, 0, 0, 0, .int (nI 0), []),
  (153, .ireturn, 154, 0, 0, 0, 0, .int 1, [])]
def cd101 : List En := cd101_0 ++ (cd101_1)
def cd102_0 : List En := [(0, .iload_n 1, 1, 0, 0, 0, 0, .null, []),
  (1, .iload_n 1, 2, 0, 0, 0, 0, .null, []),
  (2, .iconst 4, 3, 0, 0, 0, 0, .int (nI 4), []),
  (3, .ishr, 4, 0, 0, 0, 0, .null, []),
  (4, .iconst 4, 5, 0, 0, 0, 0, .int (nI 4), []),
  (5, .invokestatic 38, 8, 95, 0, 0, 310, .retAddr 2, []),
  (8, .ifCond .ne 8, 11, 16, 0, 0, 0, .null, []),
  (11, .bipush 7, 13, 0, 0, 0, 0, .int (nI 7), []),
  (13, .goto 4, 16, 17, 0, 0, 0, .null, []),
  (16, .iconst 3, 17, 0, 0, 0, 0, .int (nI 3), []),
  (17, .invokestatic 38, 20, 95, 0, 0, 310, .retAddr 2, []),
  (20, .istore_n 2, 21, 0, 0, 0, 0, .null, []),
  (21, .aload_n 0, 22, 0, 0, 0, 0, .null, []),
  (22, .iload_n 2, 23, 0, 0, 0, 0, .null, []),
  (23, .iconst 0, 24, 0, 0, 0, 0, .int (nI 0), []),
  (24, .invokevirtual 41, 27, 17, 1, 16, 411, .retAddr 3, []),
  (27, .istore_n 3, 28, 0, 0, 0, 0, .null, []),
  (28, .aload_n 0, 29, 0, 0, 0, 0, .null, []),
  (29, .iload_n 2, 30, 0, 0, 0, 0, .null, []),
  (30, .iconst 1, 31, 0, 0, 0, 0, .int (nI 1), []),
  (31, .invokevirtual 41, 34, 17, 1, 16, 411, .retAddr 3, []),
  (34, .istore 4, 36, 0, 0, 0, 0, .null, []),
  (36, .aload_n 0, 37, 0, 0, 0, 0, .null, []),
  (37, .iload_n 2, 38, 0, 0, 0, 0, .null, []),
  (38, .iconst 2, 39, 0, 0, 0, 0, .int (nI 2), []),
  (39, .invokevirtual 41, 42, 17, 1, 16, 411, .retAddr 3, []),
  (42, .istore 5, 44, 0, 0, 0, 0, .null, []),
  (44, .aload_n 0, 45, 0, 0, 0, 0, .null, []),
  (45, .iload_n 2, 46, 0, 0, 0, 0, .null, []),
  (46, .iconst 3, 47, 0, 0, 0, 0, .int (nI 3), []),
  (47, .invokevirtual 41, 50, 17, 1, 16, 411, .retAddr 3, []),
  (50, .istore 6, 52, 0, 0, 0, 0, .null, []),
  (52, .aload_n 0, 53, 0, 0, 0, 0, .null, []),
  (53, .iconst 4, 54, 0, 0, 0, 0, .int (nI 4), []),
  (54, .invokevirtual 13, 57, 18, 0, 16, 255, .retAddr 2, []),
  (57, .istore 7, 59, 0, 0, 0, 0, .null, []),
  (59, .aload_n 0, 60, 0, 0, 0, 0, .null, []),
  (60, .iconst 3, 61, 0, 0, 0, 0, .int (nI 3), []),
  (61, .invokevirtual 13, 64, 18, 0, 16, 255, .retAddr 2, []),
  (64, .istore 8, 66, 0, 0, 0, 0, .null, []),
  (66, .aload_n 0, 67, 0, 0, 0, 0, .null, []),
  (67, .bipush 6, 69, 0, 0, 0, 0, .int (nI 6), []),
  (69, .invokevirtual 13, 72, 18, 0, 16, 255, .retAddr 2, []),
  (72, .istore 9, 74, 0, 0, 0, 0, .null, []),
  (74, .aload_n 0, 75, 0, 0, 0, 0, .null, []),
  (75, .iload_n 2, 76, 0, 0, 0, 0, .null, []),
  (76, .invokevirtual 72, 79, 6, 0, 16, 619, .retAddr 2, []),
  (79, .istore 10, 81, 0, 0, 0, 0, .null, []),
  (81, .iload_n 2, 82, 0, 0, 0, 0, .null, []),
  (82, .ifCond .eq 9, 85, 91, 0, 0, 0, .null, [])]
def cd102_1 : List En := [(85, .iload_n 2, 86, 0, 0, 0, 0, .null, []),
  (86, .bipush 6, 88, 0, 0, 0, 0, .int (nI 6), []),
  (88, .if_icmp .ne 22, 91, 110, 0, 0, 0, .null, []),
  (91, .iload 10, 93, 0, 0, 0, 0, .null, []),
  (93, .ldc 47, 95, 0, 0, 0, 513, .int ((-1000000001)), []),
  (95, .if_icmp .ne 13, 98, 108, 0, 0, 0, .null, []),
  (98, .iload_n 3, 99, 0, 0, 0, 0, .null, []),
  (99, .ldc 47, 101, 0, 0, 0, 513, .int ((-1000000001)), []),
  (101, .if_icmp .ne 7, 104, 108, 0, 0, 0, .null, []),
  (104, .iconst 1, 105, 0, 0, 0, 0, .int (nI 1), []),
  (105, .goto 4, 108, 109, 0, 0, 0, .null, []),
  (108, .iconst 0, 109, 0, 0, 0, 0, .int (nI 0), []),
  (109, .ireturn, 110, 0, 0, 0, 0, .int 1, []),
  (110, .aload_n 0, 111, 0, 0, 0, 0, .null, []),
  (111, .iconst 0, 112, 0, 0, 0, 0, .int (nI 0), []),
  (112, .invokevirtual 13, 115, 18, 0, 16, 255, .retAddr 2, []),
  (115, .iconst 2, 116, 0, 0, 0, 0, .int (nI 2), []),
  (116, .if_icmp .ge 22, 119, 138, 0, 0, 0, .null, []),
  (119, .iload 10, 121, 0, 0, 0, 0, .null, []),
  (121, .ldc 48, 123, 0, 0, 0, 514, .int ((-1000000002)), []),
  (123, .if_icmp .ne 13, 126, 136, 0, 0, 0, .null, []),
  (126, .iload_n 3, 127, 0, 0, 0, 0, .null, []),
  (127, .ldc 48, 129, 0, 0, 0, 514, .int ((-1000000002)), []),
  (129, .if_icmp .ne 7, 132, 136, 0, 0, 0, .null, []),
  (132, .iconst 1, 133, 0, 0, 0, 0, .int (nI 1), []),
  (133, .goto 4, 136, 137, 0, 0, 0, .null, []),
  (136, .iconst 0, 137, 0, 0, 0, 0, .int (nI 0), []),
  (137, .ireturn, 138, 0, 0, 0, 0, .int 1, []),
  (138, .iload 10, 140, 0, 0, 0, 0, .null, []),
  (140, .iload_n 3, 141, 0, 0, 0, 0, .null, []),
  (141, .if_icmp .ne 73, 144, 214, 0, 0, 0, .null, []),
  (144, .aload_n 0, 145, 0, 0, 0, 0, .null, []),
  (145, .iconst 3, 146, 0, 0, 0, 0, .int (nI 3), []),
  (146, .invokevirtual 13, 149, 18, 0, 16, 255, .retAddr 2, []),
  (149, .iload 8, 151, 0, 0, 0, 0, .null, []),
  (151, .iload_n 2, 152, 0, 0, 0, 0, .null, []),
  (152, .iadd, 153, 0, 0, 0, 0, .null, []),
  (153, .if_icmp .ne 61, 156, 214, 0, 0, 0, .null, []),
  (156, .aload_n 0, 157, 0, 0, 0, 0, .null, []),
  (157, .iconst 4, 158, 0, 0, 0, 0, .int (nI 4), []),
  (158, .invokevirtual 13, 161, 18, 0, 16, 255, .retAddr 2, []),
  (161, .iload 7, 163, 0, 0, 0, 0, .null, []),
  (163, .iload_n 2, 164, 0, 0, 0, 0, .null, []),
  (164, .aload_n 0, 165, 0, 0, 0, 0, .null, []),
  (165, .bipush 20, 167, 0, 0, 0, 0, .int (nI 20), []),
  (167, .invokevirtual 13, 170, 18, 0, 16, 255, .retAddr 2, []),
  (170, .imul, 171, 0, 0, 0, 0, .null, []),
  (171, .iadd, 172, 0, 0, 0, 0, .null, []),
  (172, .if_icmp .ne 42, 175, 214, 0, 0, 0, .null, []),
  (175, .aload_n 0, 176, 0, 0, 0, 0, .null, [])]
def cd102_2 : List En := [(176, .bipush 6, 178, 0, 0, 0, 0, .int (nI 6), []),
  (178, .invokevirtual 13, 181, 18, 0, 16, 255, .retAddr 2, []),
  (181, .iload 9, 183, 0, 0, 0, 0, .null, []),
  (183, .iload 4, 185, 0, 0, 0, 0, .null, []),
  (185, .iadd, 186, 0, 0, 0, 0, .null, []),
  (186, .if_icmp .ne 28, 189, 214, 0, 0, 0, .null, []),
  (189, .aload_n 0, 190, 0, 0, 0, 0, .null, []),
  (190, .iconst 0, 191, 0, 0, 0, 0, .int (nI 0), []),
  (191, .invokevirtual 26, 194, 11, 0, 16, 377, .retAddr 2, []),
  (194, .iload 5, 196, 0, 0, 0, 0, .null, []),
  (196, .if_icmp .ne 18, 199, 214, 0, 0, 0, .null, []),
  (199, .aload_n 0, 200, 0, 0, 0, 0, .null, []),
  (200, .bipush 8, 202, 0, 0, 0, 0, .int (nI 8), []),
  (202, .invokevirtual 13, 205, 18, 0, 16, 255, .retAddr 2, []),
  (205, .iload 6, 207, 0, 0, 0, 0, .null, []),
  (207, .if_icmp .ne 7, 210, 214, 0, 0, 0, .null, []),
  (210, .iconst 1, 211, 0, 0, 0, 0, .int (nI 1), []),
  (211, .goto 4, 214, 215, 0, 0, 0, .null, []),
  (214, .iconst 0, 215, 0, 0, 0, 0, .int (nI 0), []),
  (215, .ireturn, 216, 0, 0, 0, 0, .int 1, [])]
def cd102 : List En := cd102_0 ++ (cd102_1 ++ (cd102_2))
def cd103_0 : List En := [(0, .iload_n 1, 1, 0, 0, 0, 0, .null, []),
  (1, .bipush 20, 3, 0, 0, 0, 0, .int (nI 20), []),
  (3, .invokestatic 38, 6, 95, 0, 0, 310, .retAddr 2, []),
  (6, .istore_n 3, 7, 0, 0, 0, 0, .null, []),
  (7, .aload_n 0, 8, 0, 0, 0, 0, .null, []),
  (8, .iconst 0, 9, 0, 0, 0, 0, .int (nI 0), []),
  (9, .invokevirtual 13, 12, 18, 0, 16, 255, .retAddr 2, []),
  (12, .istore 4, 14, 0, 0, 0, 0, .null, []),
  (14, .aload_n 0, 15, 0, 0, 0, 0, .null, []),
  (15, .iconst 1, 16, 0, 0, 0, 0, .int (nI 1), []),
  (16, .invokevirtual 13, 19, 18, 0, 16, 255, .retAddr 2, []),
  (19, .istore 5, 21, 0, 0, 0, 0, .null, []),
  (21, .iload_n 3, 22, 0, 0, 0, 0, .null, []),
  (22, .iconst 2, 23, 0, 0, 0, 0, .int (nI 2), []),
  (23, .if_icmp .ge 30, 26, 53, 0, 0, 0, .null, []),
  (26, .aload_n 0, 27, 0, 0, 0, 0, .null, []),
  (27, .invokevirtual 75, 30, 2, 0, 16, 543, .retAddr 1, []),
  (30, .iload 4, 32, 0, 0, 0, 0, .null, []),
  (32, .bipush 10, 34, 0, 0, 0, 0, .int (nI 10), []),
  (34, .if_icmp .ne 8, 37, 42, 0, 0, 0, .null, []),
  (37, .ldc 78, 39, 0, 0, 0, 565, .int ((-1000000003)), []),
  (39, .goto 5, 42, 44, 0, 0, 0, .null, []),
  (42, .iload 4, 44, 0, 0, 0, 0, .null, []),
  (44, .if_icmp .ne 7, 47, 51, 0, 0, 0, .null, []),
  (47, .iconst 1, 48, 0, 0, 0, 0, .int (nI 1), []),
  (48, .goto 4, 51, 52, 0, 0, 0, .null, []),
  (51, .iconst 0, 52, 0, 0, 0, 0, .int (nI 0), []),
  (52, .ireturn, 53, 0, 0, 0, 0, .int 1, []),
  (53, .iload_n 3, 54, 0, 0, 0, 0, .null, []),
  (54, .bipush 7, 56, 0, 0, 0, 0, .int (nI 7), []),
  (56, .if_icmp .ge 197, 59, 253, 0, 0, 0, .null, []),
  (59, .iload_n 2, 60, 0, 0, 0, 0, .null, []),
  (60, .iload 4, 62, 0, 0, 0, 0, .null, []),
  (62, .iconst 1, 63, 0, 0, 0, 0, .int (nI 1), []),
  (63, .iadd, 64, 0, 0, 0, 0, .null, []),
  (64, .invokestatic 38, 67, 95, 0, 0, 310, .retAddr 2, []),
  (67, .istore 6, 69, 0, 0, 0, 0, .null, []),
  (69, .iload_n 2, 70, 0, 0, 0, 0, .null, []),
  (70, .iconst 4, 71, 0, 0, 0, 0, .int (nI 4), []),
  (71, .ishr, 72, 0, 0, 0, 0, .null, []),
  (72, .iload 4, 74, 0, 0, 0, 0, .null, []),
  (74, .iconst 1, 75, 0, 0, 0, 0, .int (nI 1), []),
  (75, .iadd, 76, 0, 0, 0, 0, .null, []),
  (76, .invokestatic 38, 79, 95, 0, 0, 310, .retAddr 2, []),
  (79, .istore 7, 81, 0, 0, 0, 0, .null, []),
  (81, .iload_n 2, 82, 0, 0, 0, 0, .null, []),
  (82, .bipush 8, 84, 0, 0, 0, 0, .int (nI 8), []),
  (84, .ishr, 85, 0, 0, 0, 0, .null, []),
  (85, .iload_n 2, 86, 0, 0, 0, 0, .null, []),
  (86, .iconst 4, 87, 0, 0, 0, 0, .int (nI 4), [])]
def cd103_1 : List En := [(87, .invokestatic 38, 90, 95, 0, 0, 310, .retAddr 2, []),
  (90, .ifCond .ne 8, 93, 98, 0, 0, 0, .null, []),
  (93, .bipush 22, 95, 0, 0, 0, 0, .int (nI 22), []),
  (95, .goto 5, 98, 100, 0, 0, 0, .null, []),
  (98, .bipush 8, 100, 0, 0, 0, 0, .int (nI 8), []),
  (100, .invokestatic 38, 103, 95, 0, 0, 310, .retAddr 2, []),
  (103, .istore 8, 105, 0, 0, 0, 0, .null, []),
  (105, .iload 6, 107, 0, 0, 0, 0, .null, []),
  (107, .iload 4, 109, 0, 0, 0, 0, .null, []),
  (109, .if_icmp .eq 29, 112, 138, 0, 0, 0, .null, []),
  (112, .iload 7, 114, 0, 0, 0, 0, .null, []),
  (114, .iload 4, 116, 0, 0, 0, 0, .null, []),
  (116, .if_icmp .eq 22, 119, 138, 0, 0, 0, .null, []),
  (119, .iload 6, 121, 0, 0, 0, 0, .null, []),
  (121, .iload 7, 123, 0, 0, 0, 0, .null, []),
  (123, .if_icmp .eq 15, 126, 138, 0, 0, 0, .null, []),
  (126, .iload 8, 128, 0, 0, 0, 0, .null, []),
  (128, .ifCond .eq 10, 131, 138, 0, 0, 0, .null, []),
  (131, .iload 8, 133, 0, 0, 0, 0, .null, []),
  (133, .bipush 21, 135, 0, 0, 0, 0, .int (nI 21), []),
  (135, .if_icmp .ne 7, 138, 142, 0, 0, 0, .null, []),
  (138, .iconst 1, 139, 0, 0, 0, 0, .int (nI 1), []),
  (139, .goto 4, 142, 143, 0, 0, 0, .null, []),
  (142, .iconst 0, 143, 0, 0, 0, 0, .int (nI 0), []),
  (143, .istore 9, 145, 0, 0, 0, 0, .null, []),
  (145, .aload_n 0, 146, 0, 0, 0, 0, .null, []),
  (146, .iload 6, 148, 0, 0, 0, 0, .null, []),
  (148, .iload 7, 150, 0, 0, 0, 0, .null, []),
  (150, .iload 8, 152, 0, 0, 0, 0, .null, []),
  (152, .invokevirtual 79, 155, 3, 0, 16, 566, .retAddr 4, []),
  (155, .istore 10, 157, 0, 0, 0, 0, .null, []),
  (157, .iload 10, 159, 0, 0, 0, 0, .null, []),
  (159, .iload 9, 161, 0, 0, 0, 0, .null, []),
  (161, .ifCond .eq 8, 164, 169, 0, 0, 0, .null, []),
  (164, .ldc 47, 166, 0, 0, 0, 513, .int ((-1000000001)), []),
  (166, .goto 17, 169, 183, 0, 0, 0, .null, []),
  (169, .iload 5, 171, 0, 0, 0, 0, .null, []),
  (171, .bipush 16, 173, 0, 0, 0, 0, .int (nI 16), []),
  (173, .if_icmp .ne 8, 176, 181, 0, 0, 0, .null, []),
  (176, .ldc 78, 178, 0, 0, 0, 565, .int ((-1000000003)), []),
  (178, .goto 5, 181, 183, 0, 0, 0, .null, []),
  (181, .iload 5, 183, 0, 0, 0, 0, .null, []),
  (183, .if_icmp .ne 68, 186, 251, 0, 0, 0, .null, []),
  (186, .iload 10, 188, 0, 0, 0, 0, .null, []),
  (188, .ifCond .lt 59, 191, 247, 0, 0, 0, .null, []),
  (191, .aload_n 0, 192, 0, 0, 0, 0, .null, []),
  (192, .iload 10, 194, 0, 0, 0, 0, .null, []),
  (194, .iconst 3, 195, 0, 0, 0, 0, .int (nI 3), []),
  (195, .invokevirtual 19, 198, 9, 0, 16, 319, .retAddr 3, []),
  (198, .aload_n 0, 199, 0, 0, 0, 0, .null, [])]
def cd103_2 : List En := [(199, .bipush 24, 201, 0, 0, 0, 0, .int (nI 24), []),
  (201, .invokevirtual 13, 204, 18, 0, 16, 255, .retAddr 2, []),
  (204, .if_icmp .ne 47, 207, 251, 0, 0, 0, .null, []),
  (207, .aload_n 0, 208, 0, 0, 0, 0, .null, []),
  (208, .iload 10, 210, 0, 0, 0, 0, .null, []),
  (210, .iconst 2, 211, 0, 0, 0, 0, .int (nI 2), []),
  (211, .invokevirtual 19, 214, 9, 0, 16, 319, .retAddr 3, []),
  (214, .iload 8, 216, 0, 0, 0, 0, .null, []),
  (216, .if_icmp .ne 35, 219, 251, 0, 0, 0, .null, []),
  (219, .aload_n 0, 220, 0, 0, 0, 0, .null, []),
  (220, .iload 10, 222, 0, 0, 0, 0, .null, []),
  (222, .iconst 4, 223, 0, 0, 0, 0, .int (nI 4), []),
  (223, .invokevirtual 19, 226, 9, 0, 16, 319, .retAddr 3, []),
  (226, .aload_n 0, 227, 0, 0, 0, 0, .null, []),
  (227, .iload 10, 229, 0, 0, 0, 0, .null, []),
  (229, .bipush 6, 231, 0, 0, 0, 0, .int (nI 6), []),
  (231, .invokevirtual 19, 234, 9, 0, 16, 319, .retAddr 3, []),
  (234, .iadd, 235, 0, 0, 0, 0, .null, []),
  (235, .aload_n 0, 236, 0, 0, 0, 0, .null, []),
  (236, .iload 10, 238, 0, 0, 0, 0, .null, []),
  (238, .bipush 7, 240, 0, 0, 0, 0, .int (nI 7), []),
  (240, .invokevirtual 19, 243, 9, 0, 16, 319, .retAddr 3, []),
  (243, .iadd, 244, 0, 0, 0, 0, .null, []),
  (244, .ifCond .ne 7, 247, 251, 0, 0, 0, .null, []),
  (247, .iconst 1, 248, 0, 0, 0, 0, .int (nI 1), []),
  (248, .goto 4, 251, 252, 0, 0, 0, .null, []),
  (251, .iconst 0, 252, 0, 0, 0, 0, .int (nI 0), []),
  (252, .ireturn, 253, 0, 0, 0, 0, .int 1, []),
  (253, .iload_n 3, 254, 0, 0, 0, 0, .null, []),
  (254, .bipush 10, 256, 0, 0, 0, 0, .int (nI 10), []),
  (256, .if_icmp .ge 166, 259, 422, 0, 0, 0, .null, []),
  (259, .iload_n 2, 260, 0, 0, 0, 0, .null, []),
  (260, .iload 5, 262, 0, 0, 0, 0, .null, []),
  (262, .iconst 1, 263, 0, 0, 0, 0, .int (nI 1), []),
  (263, .iadd, 264, 0, 0, 0, 0, .null, []),
  (264, .invokestatic 38, 267, 95, 0, 0, 310, .retAddr 2, []),
  (267, .istore 6, 269, 0, 0, 0, 0, .null, []),
  (269, .iload_n 2, 270, 0, 0, 0, 0, .null, []),
  (270, .iconst 5, 271, 0, 0, 0, 0, .int (nI 5), []),
  (271, .ishr, 272, 0, 0, 0, 0, .null, []),
  (272, .iconst 2, 273, 0, 0, 0, 0, .int (nI 2), []),
  (273, .invokestatic 38, 276, 95, 0, 0, 310, .retAddr 2, []),
  (276, .ifCond .ne 7, 279, 283, 0, 0, 0, .null, []),
  (279, .iconst 1, 280, 0, 0, 0, 0, .int (nI 1), []),
  (280, .goto 4, 283, 284, 0, 0, 0, .null, []),
  (283, .iconst 0, 284, 0, 0, 0, 0, .int (nI 0), []),
  (284, .istore 7, 286, 0, 0, 0, 0, .null, []),
  (286, .aload_n 0, 287, 0, 0, 0, 0, .null, []),
  (287, .iconst 2, 288, 0, 0, 0, 0, .int (nI 2), []),
  (288, .invokevirtual 13, 291, 18, 0, 16, 255, .retAddr 2, [])]
def cd103_3 : List En := [(291, .istore 8, 293, 0, 0, 0, 0, .null, []),
  (293, .iload 6, 295, 0, 0, 0, 0, .null, []),
  (295, .iload 5, 297, 0, 0, 0, 0, .null, []),
  (297, .if_icmp .ne 7, 300, 304, 0, 0, 0, .null, []),
  (300, .iconst 0, 301, 0, 0, 0, 0, .int (nI 0), []),
  (301, .goto 10, 304, 311, 0, 0, 0, .null, []),
  (304, .aload_n 0, 305, 0, 0, 0, 0, .null, []),
  (305, .iload 6, 307, 0, 0, 0, 0, .null, []),
  (307, .iconst 4, 308, 0, 0, 0, 0, .int (nI 4), []),
  (308, .invokevirtual 19, 311, 9, 0, 16, 319, .retAddr 3, []),
  (311, .istore 9, 313, 0, 0, 0, 0, .null, []),
  (313, .iload 6, 315, 0, 0, 0, 0, .null, []),
  (315, .iload 5, 317, 0, 0, 0, 0, .null, []),
  (317, .if_icmp .ge 22, 320, 339, 0, 0, 0, .null, []),
  (320, .iload 7, 322, 0, 0, 0, 0, .null, []),
  (322, .iload 9, 324, 0, 0, 0, 0, .null, []),
  (324, .ifCond .ne 7, 327, 331, 0, 0, 0, .null, []),
  (327, .iconst 1, 328, 0, 0, 0, 0, .int (nI 1), []),
  (328, .goto 4, 331, 332, 0, 0, 0, .null, []),
  (331, .iconst 0, 332, 0, 0, 0, 0, .int (nI 0), []),
  (332, .if_icmp .ne 7, 335, 339, 0, 0, 0, .null, []),
  (335, .iconst 1, 336, 0, 0, 0, 0, .int (nI 1), []),
  (336, .goto 4, 339, 340, 0, 0, 0, .null, []),
  (339, .iconst 0, 340, 0, 0, 0, 0, .int (nI 0), []),
  (340, .istore 10, 342, 0, 0, 0, 0, .null, []),
  (342, .aload_n 0, 343, 0, 0, 0, 0, .null, []),
  (343, .iload 6, 345, 0, 0, 0, 0, .null, []),
  (345, .iload 7, 347, 0, 0, 0, 0, .null, []),
  (347, .invokevirtual 83, 350, 4, 0, 16, 576, .retAddr 3, []),
  (350, .iload 6, 352, 0, 0, 0, 0, .null, []),
  (352, .iload 5, 354, 0, 0, 0, 0, .null, []),
  (354, .if_icmp .ne 8, 357, 362, 0, 0, 0, .null, []),
  (357, .ldc 47, 359, 0, 0, 0, 513, .int ((-1000000001)), []),
  (359, .goto 29, 362, 388, 0, 0, 0, .null, []),
  (362, .iload 10, 364, 0, 0, 0, 0, .null, []),
  (364, .ifCond .eq 22, 367, 386, 0, 0, 0, .null, []),
  (367, .iload 7, 369, 0, 0, 0, 0, .null, []),
  (369, .ifCond .eq 10, 372, 379, 0, 0, 0, .null, []),
  (372, .iload 8, 374, 0, 0, 0, 0, .null, []),
  (374, .iconst 1, 375, 0, 0, 0, 0, .int (nI 1), []),
  (375, .isub, 376, 0, 0, 0, 0, .null, []),
  (376, .goto 12, 379, 388, 0, 0, 0, .null, []),
  (379, .iload 8, 381, 0, 0, 0, 0, .null, []),
  (381, .iconst 1, 382, 0, 0, 0, 0, .int (nI 1), []),
  (382, .iadd, 383, 0, 0, 0, 0, .null, []),
  (383, .goto 5, 386, 388, 0, 0, 0, .null, []),
  (386, .ldc 48, 388, 0, 0, 0, 514, .int ((-1000000002)), []),
  (388, .if_icmp .ne 32, 391, 420, 0, 0, 0, .null, []),
  (391, .iload 10, 393, 0, 0, 0, 0, .null, []),
  (393, .ifCond .eq 23, 396, 416, 0, 0, 0, .null, [])]
def cd103_4 : List En := [(396, .aload_n 0, 397, 0, 0, 0, 0, .null, []),
  (397, .iload 6, 399, 0, 0, 0, 0, .null, []),
  (399, .iconst 4, 400, 0, 0, 0, 0, .int (nI 4), []),
  (400, .invokevirtual 19, 403, 9, 0, 16, 319, .retAddr 3, []),
  (403, .iload 7, 405, 0, 0, 0, 0, .null, []),
  (405, .ifCond .eq 7, 408, 412, 0, 0, 0, .null, []),
  (408, .iconst 1, 409, 0, 0, 0, 0, .int (nI 1), []),
  (409, .goto 4, 412, 413, 0, 0, 0, .null, []),
  (412, .iconst 0, 413, 0, 0, 0, 0, .int (nI 0), []),
  (413, .if_icmp .ne 7, 416, 420, 0, 0, 0, .null, []),
  (416, .iconst 1, 417, 0, 0, 0, 0, .int (nI 1), []),
  (417, .goto 4, 420, 421, 0, 0, 0, .null, []),
  (420, .iconst 0, 421, 0, 0, 0, 0, .int (nI 0), []),
  (421, .ireturn, 422, 0, 0, 0, 0, .int 1, []),
  (422, .iload_n 3, 423, 0, 0, 0, 0, .null, []),
  (423, .bipush 10, 425, 0, 0, 0, 0, .int (nI 10), []),
  (425, .if_icmp .ne 97, 428, 522, 0, 0, 0, .null, []),
  (428, .iload_n 2, 429, 0, 0, 0, 0, .null, []),
  (429, .iload 4, 431, 0, 0, 0, 0, .null, []),
  (431, .iconst 1, 432, 0, 0, 0, 0, .int (nI 1), []),
  (432, .iadd, 433, 0, 0, 0, 0, .null, []),
  (433, .invokestatic 38, 436, 95, 0, 0, 310, .retAddr 2, []),
  (436, .istore 6, 438, 0, 0, 0, 0, .null, []),
  (438, .aload_n 0, 439, 0, 0, 0, 0, .null, []),
  (439, .bipush 10, 441, 0, 0, 0, 0, .int (nI 10), []),
  (441, .invokevirtual 13, 444, 18, 0, 16, 255, .retAddr 2, []),
  (444, .istore 7, 446, 0, 0, 0, 0, .null, []),
  (446, .aload_n 0, 447, 0, 0, 0, 0, .null, []),
  (447, .iload 6, 449, 0, 0, 0, 0, .null, []),
  (449, .invokevirtual 87, 452, 5, 0, 16, 586, .retAddr 2, []),
  (452, .istore 8, 454, 0, 0, 0, 0, .null, []),
  (454, .iload 8, 456, 0, 0, 0, 0, .null, []),
  (456, .iload 6, 458, 0, 0, 0, 0, .null, []),
  (458, .ifCond .eq 10, 461, 468, 0, 0, 0, .null, []),
  (461, .iload 6, 463, 0, 0, 0, 0, .null, []),
  (463, .iload 4, 465, 0, 0, 0, 0, .null, []),
  (465, .if_icmp .ne 8, 468, 473, 0, 0, 0, .null, []),
  (468, .ldc 47, 470, 0, 0, 0, 513, .int ((-1000000001)), []),
  (470, .goto 17, 473, 487, 0, 0, 0, .null, []),
  (473, .iload 6, 475, 0, 0, 0, 0, .null, []),
  (475, .iload 7, 477, 0, 0, 0, 0, .null, []),
  (477, .if_icmp .ne 8, 480, 485, 0, 0, 0, .null, []),
  (480, .ldc 48, 482, 0, 0, 0, 514, .int ((-1000000002)), []),
  (482, .goto 5, 485, 487, 0, 0, 0, .null, []),
  (485, .iload 7, 487, 0, 0, 0, 0, .null, []),
  (487, .if_icmp .ne 33, 490, 520, 0, 0, 0, .null, []),
  (490, .iload 8, 492, 0, 0, 0, 0, .null, []),
  (492, .ifCond .lt 24, 495, 516, 0, 0, 0, .null, []),
  (495, .aload_n 0, 496, 0, 0, 0, 0, .null, []),
  (496, .iconst 0, 497, 0, 0, 0, 0, .int (nI 0), [])]
def cd103_5 : List En := [(497, .invokevirtual 26, 500, 11, 0, 16, 377, .retAddr 2, []),
  (500, .ldc 34, 502, 0, 0, 0, 393, .int ((-1000000004)), []),
  (502, .if_icmp .ne 18, 505, 520, 0, 0, 0, .null, []),
  (505, .aload_n 0, 506, 0, 0, 0, 0, .null, []),
  (506, .bipush 10, 508, 0, 0, 0, 0, .int (nI 10), []),
  (508, .invokevirtual 13, 511, 18, 0, 16, 255, .retAddr 2, []),
  (511, .iload 6, 513, 0, 0, 0, 0, .null, []),
  (513, .if_icmp .ne 7, 516, 520, 0, 0, 0, .null, []),
  (516, .iconst 1, 517, 0, 0, 0, 0, .int (nI 1), []),
  (517, .goto 4, 520, 521, 0, 0, 0, .null, []),
  (520, .iconst 0, 521, 0, 0, 0, 0, .int (nI 0), []),
  (521, .ireturn, 522, 0, 0, 0, 0, .int 1, []),
  (522, .iload_n 3, 523, 0, 0, 0, 0, .null, []),
  (523, .bipush 11, 525, 0, 0, 0, 0, .int (nI 11), []),
  (525, .if_icmp .ne 65, 528, 590, 0, 0, 0, .null, []),
  (528, .aload_n 0, 529, 0, 0, 0, 0, .null, []),
  (529, .bipush 8, 531, 0, 0, 0, 0, .int (nI 8), []),
  (531, .invokevirtual 13, 534, 18, 0, 16, 255, .retAddr 2, []),
  (534, .istore 6, 536, 0, 0, 0, 0, .null, []),
  (536, .aload_n 0, 537, 0, 0, 0, 0, .null, []),
  (537, .invokevirtual 90, 540, 7, 0, 16, 595, .retAddr 1, []),
  (540, .istore 7, 542, 0, 0, 0, 0, .null, []),
  (542, .iload 7, 544, 0, 0, 0, 0, .null, []),
  (544, .iload 6, 546, 0, 0, 0, 0, .null, []),
  (546, .aload_n 0, 547, 0, 0, 0, 0, .null, []),
  (547, .bipush 8, 549, 0, 0, 0, 0, .int (nI 8), []),
  (549, .invokevirtual 13, 552, 18, 0, 16, 255, .retAddr 2, []),
  (552, .isub, 553, 0, 0, 0, 0, .null, []),
  (553, .if_icmp .ne 35, 556, 588, 0, 0, 0, .null, []),
  (556, .aload_n 0, 557, 0, 0, 0, 0, .null, []),
  (557, .bipush 8, 559, 0, 0, 0, 0, .int (nI 8), []),
  (559, .invokevirtual 13, 562, 18, 0, 16, 255, .retAddr 2, []),
  (562, .iload 5, 564, 0, 0, 0, 0, .null, []),
  (564, .aload_n 0, 565, 0, 0, 0, 0, .null, []),
  (565, .bipush 24, 567, 0, 0, 0, 0, .int (nI 24), []),
  (567, .invokevirtual 13, 570, 18, 0, 16, 255, .retAddr 2, []),
  (570, .imul, 571, 0, 0, 0, 0, .null, []),
  (571, .if_icmp .ne 17, 574, 588, 0, 0, 0, .null, []),
  (574, .aload_n 0, 575, 0, 0, 0, 0, .null, []),
  (575, .iconst 0, 576, 0, 0, 0, 0, .int (nI 0), []),
  (576, .invokevirtual 26, 579, 11, 0, 16, 377, .retAddr 2, []),
  (579, .ldc 34, 581, 0, 0, 0, 393, .int ((-1000000004)), []),
  (581, .if_icmp .ne 7, 584, 588, 0, 0, 0, .null, []),
  (584, .iconst 1, 585, 0, 0, 0, 0, .int (nI 1), []),
  (585, .goto 4, 588, 589, 0, 0, 0, .null, []),
  (588, .iconst 0, 589, 0, 0, 0, 0, .int (nI 0), []),
  (589, .ireturn, 590, 0, 0, 0, 0, .int 1, []),
  (590, .iload_n 3, 591, 0, 0, 0, 0, .null, []),
  (591, .bipush 12, 593, 0, 0, 0, 0, .int (nI 12), []),
  (593, .if_icmp .ne 262, 596, 855, 0, 0, 0, .null, [])]
def cd103_6 : List En := [(596, .iload_n 2, 597, 0, 0, 0, 0, .null, []),
  (597, .bipush 8, 599, 0, 0, 0, 0, .int (nI 8), []),
  (599, .invokestatic 38, 602, 95, 0, 0, 310, .retAddr 2, []),
  (602, .istore 6, 604, 0, 0, 0, 0, .null, []),
  (604, .iload_n 2, 605, 0, 0, 0, 0, .null, []),
  (605, .iconst 3, 606, 0, 0, 0, 0, .int (nI 3), []),
  (606, .ishr, 607, 0, 0, 0, 0, .null, []),
  (607, .iload 6, 609, 0, 0, 0, 0, .null, []),
  (609, .ifCond .ne 8, 612, 617, 0, 0, 0, .null, []),
  (612, .bipush 7, 614, 0, 0, 0, 0, .int (nI 7), []),
  (614, .goto 51, 617, 665, 0, 0, 0, .null, []),
  (617, .iload 6, 619, 0, 0, 0, 0, .null, []),
  (619, .iconst 1, 620, 0, 0, 0, 0, .int (nI 1), []),
  (620, .if_icmp .ne 8, 623, 628, 0, 0, 0, .null, []),
  (623, .bipush 93, 625, 0, 0, 0, 0, .int (nI 93), []),
  (625, .goto 40, 628, 665, 0, 0, 0, .null, []),
  (628, .iload 6, 630, 0, 0, 0, 0, .null, []),
  (630, .iconst 2, 631, 0, 0, 0, 0, .int (nI 2), []),
  (631, .if_icmp .ne 9, 634, 640, 0, 0, 0, .null, []),
  (634, .sipush 1002, 637, 0, 0, 0, 0, .int (nI 1002), []),
  (637, .goto 28, 640, 665, 0, 0, 0, .null, []),
  (640, .iload 6, 642, 0, 0, 0, 0, .null, []),
  (642, .iconst 3, 643, 0, 0, 0, 0, .int (nI 3), []),
  (643, .if_icmp .ne 8, 646, 651, 0, 0, 0, .null, []),
  (646, .bipush 12, 648, 0, 0, 0, 0, .int (nI 12), []),
  (648, .goto 17, 651, 665, 0, 0, 0, .null, []),
  (651, .iload 6, 653, 0, 0, 0, 0, .null, []),
  (653, .iconst 5, 654, 0, 0, 0, 0, .int (nI 5), []),
  (654, .if_icmp .ne 9, 657, 663, 0, 0, 0, .null, []),
  (657, .sipush 10100, 660, 0, 0, 0, 0, .int (nI 10100), []),
  (660, .goto 5, 663, 665, 0, 0, 0, .null, []),
  (663, .bipush 102, 665, 0, 0, 0, 0, .int (nI 102), []),
  (665, .invokestatic 38, 668, 95, 0, 0, 310, .retAddr 2, []),
  (668, .istore 7, 670, 0, 0, 0, 0, .null, []),
  (670, .iload 6, 672, 0, 0, 0, 0, .null, []),
  (672, .iconst 1, 673, 0, 0, 0, 0, .int (nI 1), []),
  (673, .if_icmp .eq 9, 676, 682, 0, 0, 0, .null, []),
  (676, .iload 6, 678, 0, 0, 0, 0, .null, []),
  (678, .iconst 3, 679, 0, 0, 0, 0, .int (nI 3), []),
  (679, .if_icmp .ne 7, 682, 686, 0, 0, 0, .null, []),
  (682, .iconst 0, 683, 0, 0, 0, 0, .int (nI 0), []),
  (683, .goto 15, 686, 698, 0, 0, 0, .null, []),
  (686, .iload 6, 688, 0, 0, 0, 0, .null, []),
  (688, .iconst 5, 689, 0, 0, 0, 0, .int (nI 5), []),
  (689, .if_icmp .ne 8, 692, 697, 0, 0, 0, .null, []),
  (692, .bipush 100, 694, 0, 0, 0, 0, .int (nI 100), []),
  (694, .goto 4, 697, 698, 0, 0, 0, .null, []),
  (697, .iconst 1, 698, 0, 0, 0, 0, .int (nI 1), []),
  (698, .istore 8, 700, 0, 0, 0, 0, .null, []),
  (700, .iload 6, 702, 0, 0, 0, 0, .null, [])]
def cd103_7 : List En := [(702, .ifCond .ne 7, 705, 709, 0, 0, 0, .null, []),
  (705, .iconst 5, 706, 0, 0, 0, 0, .int (nI 5), []),
  (706, .goto 51, 709, 757, 0, 0, 0, .null, []),
  (709, .iload 6, 711, 0, 0, 0, 0, .null, []),
  (711, .iconst 1, 712, 0, 0, 0, 0, .int (nI 1), []),
  (712, .if_icmp .ne 8, 715, 720, 0, 0, 0, .null, []),
  (715, .bipush 90, 717, 0, 0, 0, 0, .int (nI 90), []),
  (717, .goto 40, 720, 757, 0, 0, 0, .null, []),
  (720, .iload 6, 722, 0, 0, 0, 0, .null, []),
  (722, .iconst 2, 723, 0, 0, 0, 0, .int (nI 2), []),
  (723, .if_icmp .ne 9, 726, 732, 0, 0, 0, .null, []),
  (726, .sipush 999, 729, 0, 0, 0, 0, .int (nI 999), []),
  (729, .goto 28, 732, 757, 0, 0, 0, .null, []),
  (732, .iload 6, 734, 0, 0, 0, 0, .null, []),
  (734, .iconst 3, 735, 0, 0, 0, 0, .int (nI 3), []),
  (735, .if_icmp .ne 8, 738, 743, 0, 0, 0, .null, []),
  (738, .bipush 9, 740, 0, 0, 0, 0, .int (nI 9), []),
  (740, .goto 17, 743, 757, 0, 0, 0, .null, []),
  (743, .iload 6, 745, 0, 0, 0, 0, .null, []),
  (745, .iconst 5, 746, 0, 0, 0, 0, .int (nI 5), []),
  (746, .if_icmp .ne 9, 749, 755, 0, 0, 0, .null, []),
  (749, .sipush 9999, 752, 0, 0, 0, 0, .int (nI 9999), []),
  (752, .goto 5, 755, 757, 0, 0, 0, .null, []),
  (755, .bipush 99, 757, 0, 0, 0, 0, .int (nI 99), []),
  (757, .istore 9, 759, 0, 0, 0, 0, .null, []),
  (759, .iload 6, 761, 0, 0, 0, 0, .null, []),
  (761, .bipush 7, 763, 0, 0, 0, 0, .int (nI 7), []),
  (763, .if_icmp .eq 17, 766, 780, 0, 0, 0, .null, []),
  (766, .iload 7, 768, 0, 0, 0, 0, .null, []),
  (768, .iload 8, 770, 0, 0, 0, 0, .null, []),
  (770, .if_icmp .lt 10, 773, 780, 0, 0, 0, .null, []),
  (773, .iload 7, 775, 0, 0, 0, 0, .null, []),
  (775, .iload 9, 777, 0, 0, 0, 0, .null, []),
  (777, .if_icmp .le 7, 780, 784, 0, 0, 0, .null, []),
  (780, .iconst 1, 781, 0, 0, 0, 0, .int (nI 1), []),
  (781, .goto 4, 784, 785, 0, 0, 0, .null, []),
  (784, .iconst 0, 785, 0, 0, 0, 0, .int (nI 0), []),
  (785, .istore 10, 787, 0, 0, 0, 0, .null, []),
  (787, .iload 10, 789, 0, 0, 0, 0, .null, []),
  (789, .ifCond .eq 7, 792, 796, 0, 0, 0, .null, []),
  (792, .iconst 0, 793, 0, 0, 0, 0, .int (nI 0), []),
  (793, .goto 12, 796, 805, 0, 0, 0, .null, []),
  (796, .aload_n 0, 797, 0, 0, 0, 0, .null, []),
  (797, .bipush 20, 799, 0, 0, 0, 0, .int (nI 20), []),
  (799, .iload 6, 801, 0, 0, 0, 0, .null, []),
  (801, .iadd, 802, 0, 0, 0, 0, .null, []),
  (802, .invokevirtual 13, 805, 18, 0, 16, 255, .retAddr 2, []),
  (805, .istore 11, 807, 0, 0, 0, 0, .null, []),
  (807, .aload_n 0, 808, 0, 0, 0, 0, .null, []),
  (808, .iload 6, 810, 0, 0, 0, 0, .null, [])]
def cd103_8 : List En := [(810, .iload 7, 812, 0, 0, 0, 0, .null, []),
  (812, .invokevirtual 93, 815, 8, 0, 16, 604, .retAddr 3, []),
  (815, .iload 10, 817, 0, 0, 0, 0, .null, []),
  (817, .ifCond .eq 8, 820, 825, 0, 0, 0, .null, []),
  (820, .ldc 47, 822, 0, 0, 0, 513, .int ((-1000000001)), []),
  (822, .goto 5, 825, 827, 0, 0, 0, .null, []),
  (825, .iload 11, 827, 0, 0, 0, 0, .null, []),
  (827, .if_icmp .ne 26, 830, 853, 0, 0, 0, .null, []),
  (830, .iload 10, 832, 0, 0, 0, 0, .null, []),
  (832, .ifCond .ne 17, 835, 849, 0, 0, 0, .null, []),
  (835, .aload_n 0, 836, 0, 0, 0, 0, .null, []),
  (836, .bipush 20, 838, 0, 0, 0, 0, .int (nI 20), []),
  (838, .iload 6, 840, 0, 0, 0, 0, .null, []),
  (840, .iadd, 841, 0, 0, 0, 0, .null, []),
  (841, .invokevirtual 13, 844, 18, 0, 16, 255, .retAddr 2, []),
  (844, .iload 7, 846, 0, 0, 0, 0, .null, []),
  (846, .if_icmp .ne 7, 849, 853, 0, 0, 0, .null, []),
  (849, .iconst 1, 850, 0, 0, 0, 0, .int (nI 1), []),
  (850, .goto 4, 853, 854, 0, 0, 0, .null, []),
  (853, .iconst 0, 854, 0, 0, 0, 0, .int (nI 0), []),
  (854, .ireturn, 855, 0, 0, 0, 0, .int 1, []),
  (855, .iload_n 3, 856, 0, 0, 0, 0, .null, []),
  (856, .bipush 17, 858, 0, 0, 0, 0, .int (nI 17), []),
  (858, .if_icmp .ge 9, 861, 867, 0, 0, 0, .null, []),
  (861, .aload_n 0, 862, 0, 0, 0, 0, .null, []),
  (862, .iload_n 2, 863, 0, 0, 0, 0, .null, []),
  (863, .invokestatic 96, 866, 102, 9, 0, 616, .retAddr 2, []),
  (866, .ireturn, 867, 0, 0, 0, 0, .int 1, []),
  (867, .aload_n 0, 868, 0, 0, 0, 0, .null, []),
  (868, .iload_n 2, 869, 0, 0, 0, 0, .null, []),
  (869, .invokestatic 99, 872, 100, 8, 0, 623, .retAddr 2, []),
  (872, .ifCond .eq 14, 875, 886, 0, 0, 0, .null, []),
  (875, .aload_n 0, 876, 0, 0, 0, 0, .null, []),
  (876, .invokestatic 102, 879, 101, 7, 0, 648, .retAddr 1, []),
  (879, .ifCond .eq 7, 882, 886, 0, 0, 0, .null, []),
  (882, .iconst 1, 883, 0, 0, 0, 0, .int (nI 1), []),
  (883, .goto 4, 886, 887, 0, 0, 0, .null, []),
  (886, .iconst 0, 887, 0, 0, 0, 0, .int (nI 0), []),
  (887, .ireturn, 888, 0, 0, 0, 0, .int 1, [])]
def cd103 : List En := cd103_0 ++ (cd103_1 ++ (cd103_2 ++ (cd103_3 ++ (cd103_4 ++ (cd103_5 ++ (cd103_6 ++ (cd103_7 ++ (cd103_8))))))))
def mC : Nat → List En := fun m => match m with
  | 0 => cd0
  | 1 => cd1
  | 2 => cd2
  | 3 => cd3
  | 4 => cd4
  | 5 => cd5
  | 6 => cd6
  | 7 => cd7
  | 8 => cd8
  | 9 => cd9
  | 10 => cd10
  | 11 => cd11
  | 12 => cd12
  | 13 => cd13
  | 14 => cd14
  | 15 => cd15
  | 16 => cd16
  | 17 => cd17
  | 18 => cd18
  | 19 => cd19
  | 20 => cd20
  | 21 => cd21
  | 22 => cd22
  | 23 => cd23
  | 24 => cd24
  | 25 => cd25
  | 26 => cd26
  | 27 => cd27
  | 28 => cd28
  | 29 => cd29
  | 30 => cd30
  | 31 => cd31
  | 32 => cd32
  | 33 => cd33
  | 34 => cd34
  | 35 => cd35
  | 36 => cd36
  | 37 => cd37
  | 38 => cd38
  | 39 => cd39
  | 40 => cd40
  | 41 => cd41
  | 42 => cd42
  | 43 => cd43
  | 44 => cd44
  | 45 => cd45
  | 46 => cd46
  | 47 => cd47
  | 48 => cd48
  | 49 => cd49
  | 50 => cd50
  | 51 => cd51
  | 52 => cd52
  | 53 => cd53
  | 54 => cd54
  | 55 => cd55
  | 56 => cd56
  | 57 => cd57
  | 58 => cd58
  | 59 => cd59
  | 60 => cd60
  | 61 => cd61
  | 62 => cd62
  | 63 => cd63
  | 64 => cd64
  | 65 => cd65
  | 66 => cd66
  | 67 => cd67
  | 68 => cd68
  | 69 => cd69
  | 70 => cd70
  | 71 => cd71
  | 72 => cd72
  | 73 => cd73
  | 74 => cd74
  | 75 => cd75
  | 76 => cd76
  | 77 => cd77
  | 78 => cd78
  | 79 => cd79
  | 80 => cd80
  | 81 => cd81
  | 82 => cd82
  | 83 => cd83
  | 84 => cd84
  | 85 => cd85
  | 86 => cd86
  | 87 => cd87
  | 88 => cd88
  | 89 => cd89
  | 90 => cd90
  | 91 => cd91
  | 92 => cd92
  | 93 => cd93
  | 94 => cd94
  | 95 => cd95
  | 96 => cd96
  | 97 => cd97
  | 98 => cd98
  | 99 => cd99
  | 100 => cd100
  | 101 => cd101
  | 102 => cd102
  | 103 => cd103
  | _ => []
