theorem wp_jmp {m : Nat} {c : Prop} [Decidable c] {t e : Nat} {ls : Lcl} {st : List Value} {σ : Sg} {M : Mem} {Q : Po} : wp m (jmp c t e) ls st σ M Q = if c then wp m t ls st σ M Q else wp m e ls st σ M Q := by
  unfold jmp
  split <;> rfl
theorem wp_sw_c {m t d : Nat} {v x : Int32} {r : List (Int32 × Nat)} {ls : Lcl} {st : List Value} {σ : Sg} {M : Mem} {Q : Po} : wp m (swT ((v, t) :: r) d x) ls st σ M Q = if x = v then wp m t ls st σ M Q else wp m (swT r d x) ls st σ M Q := by
  rw [swT]
  split <;> rfl
theorem wp_sw_n {m d : Nat} {x : Int32} {ls : Lcl} {st : List Value} {σ : Sg} {M : Mem} {Q : Po} : wp m (swT [] d x) ls st σ M Q = wp m d ls st σ M Q := rfl
theorem x_iconst {n : Int} {m pc npc a b d w : Nat} {cv : Value} {sw : List (Int32 × Nat)} {l : List En} (hm : mC m = l) (he : fe l pc = some ((.iconst n), npc, a, b, d, w, cv, sw)) (ls : Lcl) (st : List Value) (σ : Sg) (M : Mem) (Q : Po) : wp m pc ls st σ M Q = wp m npc ls (cv :: st) σ M Q := wp_eq hm he ls st σ M Q
theorem x_bipush {n : Int} {m pc npc a b d w : Nat} {cv : Value} {sw : List (Int32 × Nat)} {l : List En} (hm : mC m = l) (he : fe l pc = some ((.bipush n), npc, a, b, d, w, cv, sw)) (ls : Lcl) (st : List Value) (σ : Sg) (M : Mem) (Q : Po) : wp m pc ls st σ M Q = wp m npc ls (cv :: st) σ M Q := wp_eq hm he ls st σ M Q
theorem x_sipush {n : Int} {m pc npc a b d w : Nat} {cv : Value} {sw : List (Int32 × Nat)} {l : List En} (hm : mC m = l) (he : fe l pc = some ((.sipush n), npc, a, b, d, w, cv, sw)) (ls : Lcl) (st : List Value) (σ : Sg) (M : Mem) (Q : Po) : wp m pc ls st σ M Q = wp m npc ls (cv :: st) σ M Q := wp_eq hm he ls st σ M Q
theorem x_ldc {n : Nat} {m pc npc a b d w : Nat} {cv : Value} {sw : List (Int32 × Nat)} {l : List En} (hm : mC m = l) (he : fe l pc = some ((.ldc n), npc, a, b, d, w, cv, sw)) (ls : Lcl) (st : List Value) (σ : Sg) (M : Mem) (Q : Po) : wp m pc ls st σ M Q = wp m npc ls (cv :: st) σ M Q := wp_eq hm he ls st σ M Q
theorem x_ldc2_w {n : Nat} {m pc npc a b d w : Nat} {cv : Value} {sw : List (Int32 × Nat)} {l : List En} (hm : mC m = l) (he : fe l pc = some ((.ldc2_w n), npc, a, b, d, w, cv, sw)) (ls : Lcl) (st : List Value) (σ : Sg) (M : Mem) (Q : Po) : wp m pc ls st σ M Q = wp m npc ls (cv :: st) σ M Q := wp_eq hm he ls st σ M Q
theorem x_fconst {n : Fin 3} {m pc npc a b d w : Nat} {cv : Value} {sw : List (Int32 × Nat)} {l : List En} (hm : mC m = l) (he : fe l pc = some ((.fconst n), npc, a, b, d, w, cv, sw)) (ls : Lcl) (st : List Value) (σ : Sg) (M : Mem) (Q : Po) : wp m pc ls st σ M Q = wp m npc ls (cv :: st) σ M Q := wp_eq hm he ls st σ M Q
theorem x_iload {k : Nat} {m pc npc a b d w : Nat} {cv : Value} {sw : List (Int32 × Nat)} {l : List En} (hm : mC m = l) (he : fe l pc = some ((.iload k), npc, a, b, d, w, cv, sw)) (ls : Lcl) (x : Int32) (h : lget ls k = some (.int x)) (st : List Value) (σ : Sg) (M : Mem) (Q : Po) : wp m pc ls st σ M Q = wp m npc ls (.int x :: st) σ M Q := (wp_eq hm he ls st σ M Q).trans (by simp only [stA, h]; rfl)
theorem x_iload_n {k : Fin 4} {m pc npc a b d w : Nat} {cv : Value} {sw : List (Int32 × Nat)} {l : List En} (hm : mC m = l) (he : fe l pc = some ((.iload_n k), npc, a, b, d, w, cv, sw)) (ls : Lcl) (x : Int32) (h : lget ls k.val = some (.int x)) (st : List Value) (σ : Sg) (M : Mem) (Q : Po) : wp m pc ls st σ M Q = wp m npc ls (.int x :: st) σ M Q := (wp_eq hm he ls st σ M Q).trans (by simp only [stA, h]; rfl)
theorem x_aload_n {k : Fin 4} {m pc npc a b d w : Nat} {cv : Value} {sw : List (Int32 × Nat)} {l : List En} (hm : mC m = l) (he : fe l pc = some ((.aload_n k), npc, a, b, d, w, cv, sw)) (ls : Lcl) (x : Nat) (h : lget ls k.val = some (.ref x)) (st : List Value) (σ : Sg) (M : Mem) (Q : Po) : wp m pc ls st σ M Q = wp m npc ls (.ref x :: st) σ M Q := (wp_eq hm he ls st σ M Q).trans (by simp only [stA, h]; rfl)
theorem x_lload_n {k : Fin 4} {m pc npc a b d w : Nat} {cv : Value} {sw : List (Int32 × Nat)} {l : List En} (hm : mC m = l) (he : fe l pc = some ((.lload_n k), npc, a, b, d, w, cv, sw)) (ls : Lcl) (x : Int64) (h : lget ls k.val = some (.long x)) (st : List Value) (σ : Sg) (M : Mem) (Q : Po) : wp m pc ls st σ M Q = wp m npc ls (.long x :: st) σ M Q := (wp_eq hm he ls st σ M Q).trans (by simp only [stA, h]; rfl)
theorem x_fload_n {k : Fin 4} {m pc npc a b d w : Nat} {cv : Value} {sw : List (Int32 × Nat)} {l : List En} (hm : mC m = l) (he : fe l pc = some ((.fload_n k), npc, a, b, d, w, cv, sw)) (ls : Lcl) (x : UInt32) (h : lget ls k.val = some (.float x)) (st : List Value) (σ : Sg) (M : Mem) (Q : Po) : wp m pc ls st σ M Q = wp m npc ls (.float x :: st) σ M Q := (wp_eq hm he ls st σ M Q).trans (by simp only [stA, h]; rfl)
theorem x_istore {k : Nat} {m pc npc a b d w : Nat} {cv : Value} {sw : List (Int32 × Nat)} {l : List En} (hm : mC m = l) (he : fe l pc = some ((.istore k), npc, a, b, d, w, cv, sw)) (ls : Lcl) (x : Int32) (h1 : k < ls.length) (h2 : narrowAt ls k = true) (st : List Value) (σ : Sg) (M : Mem) (Q : Po) : wp m pc ls (.int x :: st) σ M Q = wp m npc (lset ls k (some (.int x))) st σ M Q := (wp_eq hm he ls (.int x :: st) σ M Q).trans (by
  show wpR (st1 ls k (.int x) fun ls => go npc ls st σ M) m npc ls σ M Q = _
  unfold st1 gd
  rw [if_pos ⟨h1, h2⟩]
  rfl)
theorem x_istore_n {k : Fin 4} {m pc npc a b d w : Nat} {cv : Value} {sw : List (Int32 × Nat)} {l : List En} (hm : mC m = l) (he : fe l pc = some ((.istore_n k), npc, a, b, d, w, cv, sw)) (ls : Lcl) (x : Int32) (h1 : k.val < ls.length) (h2 : narrowAt ls k.val = true) (st : List Value) (σ : Sg) (M : Mem) (Q : Po) : wp m pc ls (.int x :: st) σ M Q = wp m npc (lset ls k.val (some (.int x))) st σ M Q := (wp_eq hm he ls (.int x :: st) σ M Q).trans (by
  show wpR (st1 ls k.val (.int x) fun ls => go npc ls st σ M) m npc ls σ M Q = _
  unfold st1 gd
  rw [if_pos ⟨h1, h2⟩]
  rfl)
theorem x_astore_n {k : Fin 4} {m pc npc a b d w : Nat} {cv : Value} {sw : List (Int32 × Nat)} {l : List En} (hm : mC m = l) (he : fe l pc = some ((.astore_n k), npc, a, b, d, w, cv, sw)) (ls : Lcl) (x : Nat) (h1 : k.val < ls.length) (h2 : narrowAt ls k.val = true) (st : List Value) (σ : Sg) (M : Mem) (Q : Po) : wp m pc ls (.ref x :: st) σ M Q = wp m npc (lset ls k.val (some (.ref x))) st σ M Q := (wp_eq hm he ls (.ref x :: st) σ M Q).trans (by
  show wpR (st1 ls k.val (.ref x) fun ls => go npc ls st σ M) m npc ls σ M Q = _
  unfold st1 gd
  rw [if_pos ⟨h1, h2⟩]
  rfl)
theorem x_fstore_n {k : Fin 4} {m pc npc a b d w : Nat} {cv : Value} {sw : List (Int32 × Nat)} {l : List En} (hm : mC m = l) (he : fe l pc = some ((.fstore_n k), npc, a, b, d, w, cv, sw)) (ls : Lcl) (x : UInt32) (h1 : k.val < ls.length) (h2 : narrowAt ls k.val = true) (st : List Value) (σ : Sg) (M : Mem) (Q : Po) : wp m pc ls (.float x :: st) σ M Q = wp m npc (lset ls k.val (some (.float x))) st σ M Q := (wp_eq hm he ls (.float x :: st) σ M Q).trans (by
  show wpR (st1 ls k.val (.float x) fun ls => go npc ls st σ M) m npc ls σ M Q = _
  unfold st1 gd
  rw [if_pos ⟨h1, h2⟩]
  rfl)
theorem x_lstore_n {k : Fin 4} {m pc npc a b d w : Nat} {cv : Value} {sw : List (Int32 × Nat)} {l : List En} (hm : mC m = l) (he : fe l pc = some ((.lstore_n k), npc, a, b, d, w, cv, sw)) (ls : Lcl) (x : Int64) (h1 : k.val + 1 < ls.length) (h2 : narrowAt ls k.val = true) (st : List Value) (σ : Sg) (M : Mem) (Q : Po) : wp m pc ls (.long x :: st) σ M Q = wp m npc (lset (lset ls (k.val + 1) none) k.val (some (.long x))) st σ M Q := (wp_eq hm he ls (.long x :: st) σ M Q).trans (by
  show wpR (st2 ls k.val (.long x) fun ls => go npc ls st σ M) m npc ls σ M Q = _
  unfold st2 gd
  rw [if_pos ⟨h1, h2⟩]
  rfl)
theorem x_iinc {k : Nat} {n : Int} {m pc npc a b d w : Nat} {cv : Value} {sw : List (Int32 × Nat)} {l : List En} (hm : mC m = l) (he : fe l pc = some ((.iinc k n), npc, a, b, d, w, cv, sw)) (ls : Lcl) (x y : Int32) (hy : Int32.ofInt n = y) (h : lget ls k = some (.int x)) (h1 : k < ls.length) (h2 : narrowAt ls k = true) (st : List Value) (σ : Sg) (M : Mem) (Q : Po) : wp m pc ls st σ M Q = wp m npc (lset ls k (some (.int (x + y)))) st σ M Q := (wp_eq hm he ls st σ M Q).trans (by
  subst hy
  simp only [stA, h]
  show wpR (st1 ls k (.int (x + Int32.ofInt n)) fun ls => go npc ls st σ M) m npc ls σ M Q = _
  unfold st1 gd
  rw [if_pos ⟨h1, h2⟩]
  rfl)
theorem x_iadd {m pc npc a b d w : Nat} {cv : Value} {sw : List (Int32 × Nat)} {l : List En} (hm : mC m = l) (he : fe l pc = some (.iadd, npc, a, b, d, w, cv, sw)) (ls : Lcl) (x y : Int32) (st : List Value) (σ : Sg) (M : Mem) (Q : Po) : wp m pc ls (.int y :: .int x :: st) σ M Q = wp m npc ls (.int (x + y) :: st) σ M Q := wp_eq hm he ls (.int y :: .int x :: st) σ M Q
theorem x_isub {m pc npc a b d w : Nat} {cv : Value} {sw : List (Int32 × Nat)} {l : List En} (hm : mC m = l) (he : fe l pc = some (.isub, npc, a, b, d, w, cv, sw)) (ls : Lcl) (x y : Int32) (st : List Value) (σ : Sg) (M : Mem) (Q : Po) : wp m pc ls (.int y :: .int x :: st) σ M Q = wp m npc ls (.int (x - y) :: st) σ M Q := wp_eq hm he ls (.int y :: .int x :: st) σ M Q
theorem x_imul {m pc npc a b d w : Nat} {cv : Value} {sw : List (Int32 × Nat)} {l : List En} (hm : mC m = l) (he : fe l pc = some (.imul, npc, a, b, d, w, cv, sw)) (ls : Lcl) (x y : Int32) (st : List Value) (σ : Sg) (M : Mem) (Q : Po) : wp m pc ls (.int y :: .int x :: st) σ M Q = wp m npc ls (.int (x * y) :: st) σ M Q := wp_eq hm he ls (.int y :: .int x :: st) σ M Q
theorem x_iand {m pc npc a b d w : Nat} {cv : Value} {sw : List (Int32 × Nat)} {l : List En} (hm : mC m = l) (he : fe l pc = some (.iand, npc, a, b, d, w, cv, sw)) (ls : Lcl) (x y : Int32) (st : List Value) (σ : Sg) (M : Mem) (Q : Po) : wp m pc ls (.int y :: .int x :: st) σ M Q = wp m npc ls (.int (x &&& y) :: st) σ M Q := wp_eq hm he ls (.int y :: .int x :: st) σ M Q
theorem x_ior {m pc npc a b d w : Nat} {cv : Value} {sw : List (Int32 × Nat)} {l : List En} (hm : mC m = l) (he : fe l pc = some (.ior, npc, a, b, d, w, cv, sw)) (ls : Lcl) (x y : Int32) (st : List Value) (σ : Sg) (M : Mem) (Q : Po) : wp m pc ls (.int y :: .int x :: st) σ M Q = wp m npc ls (.int (x ||| y) :: st) σ M Q := wp_eq hm he ls (.int y :: .int x :: st) σ M Q
theorem x_ishl {m pc npc a b d w : Nat} {cv : Value} {sw : List (Int32 × Nat)} {l : List En} (hm : mC m = l) (he : fe l pc = some (.ishl, npc, a, b, d, w, cv, sw)) (ls : Lcl) (x y : Int32) (st : List Value) (σ : Sg) (M : Mem) (Q : Po) : wp m pc ls (.int y :: .int x :: st) σ M Q = wp m npc ls (.int (x <<< (y &&& 31)) :: st) σ M Q := wp_eq hm he ls (.int y :: .int x :: st) σ M Q
theorem x_ishr {m pc npc a b d w : Nat} {cv : Value} {sw : List (Int32 × Nat)} {l : List En} (hm : mC m = l) (he : fe l pc = some (.ishr, npc, a, b, d, w, cv, sw)) (ls : Lcl) (x y : Int32) (st : List Value) (σ : Sg) (M : Mem) (Q : Po) : wp m pc ls (.int y :: .int x :: st) σ M Q = wp m npc ls (.int (x >>> (y &&& 31)) :: st) σ M Q := wp_eq hm he ls (.int y :: .int x :: st) σ M Q
theorem x_idiv {m pc npc a b d w : Nat} {cv : Value} {sw : List (Int32 × Nat)} {l : List En} (hm : mC m = l) (he : fe l pc = some (.idiv, npc, a, b, d, w, cv, sw)) (ls : Lcl) (x y : Int32) (h : ¬ y = 0) (st : List Value) (σ : Sg) (M : Mem) (Q : Po) : wp m pc ls (.int y :: .int x :: st) σ M Q = wp m npc ls (.int (x / y) :: st) σ M Q := (wp_eq hm he ls (.int y :: .int x :: st) σ M Q).trans (by
  show wpR (gd (¬ y = 0) (go npc ls (.int (x / y) :: st) σ M)) m npc ls σ M Q = _
  unfold gd
  rw [if_pos h]
  rfl)
theorem x_irem {m pc npc a b d w : Nat} {cv : Value} {sw : List (Int32 × Nat)} {l : List En} (hm : mC m = l) (he : fe l pc = some (.irem, npc, a, b, d, w, cv, sw)) (ls : Lcl) (x y : Int32) (h : ¬ y = 0) (st : List Value) (σ : Sg) (M : Mem) (Q : Po) : wp m pc ls (.int y :: .int x :: st) σ M Q = wp m npc ls (.int (x - x / y * y) :: st) σ M Q := (wp_eq hm he ls (.int y :: .int x :: st) σ M Q).trans (by
  show wpR (gd (¬ y = 0) (go npc ls (.int (x - x / y * y) :: st) σ M)) m npc ls σ M Q = _
  unfold gd
  rw [if_pos h]
  rfl)
theorem x_lmul {m pc npc a b d w : Nat} {cv : Value} {sw : List (Int32 × Nat)} {l : List En} (hm : mC m = l) (he : fe l pc = some (.lmul, npc, a, b, d, w, cv, sw)) (ls : Lcl) (x y : Int64) (st : List Value) (σ : Sg) (M : Mem) (Q : Po) : wp m pc ls (.long y :: .long x :: st) σ M Q = wp m npc ls (.long (x * y) :: st) σ M Q := wp_eq hm he ls (.long y :: .long x :: st) σ M Q
theorem x_lrem {m pc npc a b d w : Nat} {cv : Value} {sw : List (Int32 × Nat)} {l : List En} (hm : mC m = l) (he : fe l pc = some (.lrem, npc, a, b, d, w, cv, sw)) (ls : Lcl) (x y : Int64) (h : ¬ y = 0) (st : List Value) (σ : Sg) (M : Mem) (Q : Po) : wp m pc ls (.long y :: .long x :: st) σ M Q = wp m npc ls (.long (x - x / y * y) :: st) σ M Q := (wp_eq hm he ls (.long y :: .long x :: st) σ M Q).trans (by
  show wpR (gd (¬ y = 0) (go npc ls (.long (x - x / y * y) :: st) σ M)) m npc ls σ M Q = _
  unfold gd
  rw [if_pos h]
  rfl)
theorem x_fmul {m pc npc a b d w : Nat} {cv : Value} {sw : List (Int32 × Nat)} {l : List En} (hm : mC m = l) (he : fe l pc = some (.fmul, npc, a, b, d, w, cv, sw)) (ls : Lcl) (x y : UInt32) (h : nn32 (FP.fmul x y) = true) (st : List Value) (σ : Sg) (M : Mem) (Q : Po) : wp m pc ls (.float y :: .float x :: st) σ M Q = wp m npc ls (.float (FP.fmul x y) :: st) σ M Q := (wp_eq hm he ls (.float y :: .float x :: st) σ M Q).trans (by
  show wpR (gd (nn32 (FP.fmul x y) = true) (go npc ls (.float (FP.fmul x y) :: st) σ M)) m npc ls σ M Q = _
  unfold gd
  rw [if_pos h]
  rfl)
theorem x_fdiv {m pc npc a b d w : Nat} {cv : Value} {sw : List (Int32 × Nat)} {l : List En} (hm : mC m = l) (he : fe l pc = some (.fdiv, npc, a, b, d, w, cv, sw)) (ls : Lcl) (x y : UInt32) (h : nn32 (FP.fdiv x y) = true) (st : List Value) (σ : Sg) (M : Mem) (Q : Po) : wp m pc ls (.float y :: .float x :: st) σ M Q = wp m npc ls (.float (FP.fdiv x y) :: st) σ M Q := (wp_eq hm he ls (.float y :: .float x :: st) σ M Q).trans (by
  show wpR (gd (nn32 (FP.fdiv x y) = true) (go npc ls (.float (FP.fdiv x y) :: st) σ M)) m npc ls σ M Q = _
  unfold gd
  rw [if_pos h]
  rfl)
theorem x_fsub {m pc npc a b d w : Nat} {cv : Value} {sw : List (Int32 × Nat)} {l : List En} (hm : mC m = l) (he : fe l pc = some (.fsub, npc, a, b, d, w, cv, sw)) (ls : Lcl) (x y : UInt32) (h : nn32 (FP.fsub x y) = true) (st : List Value) (σ : Sg) (M : Mem) (Q : Po) : wp m pc ls (.float y :: .float x :: st) σ M Q = wp m npc ls (.float (FP.fsub x y) :: st) σ M Q := (wp_eq hm he ls (.float y :: .float x :: st) σ M Q).trans (by
  show wpR (gd (nn32 (FP.fsub x y) = true) (go npc ls (.float (FP.fsub x y) :: st) σ M)) m npc ls σ M Q = _
  unfold gd
  rw [if_pos h]
  rfl)
theorem x_fcmp {op : CmpOp} {m pc npc a b d w : Nat} {cv : Value} {sw : List (Int32 × Nat)} {l : List En} (hm : mC m = l) (he : fe l pc = some ((.fcmp op), npc, a, b, d, w, cv, sw)) (ls : Lcl) (x y : UInt32) (st : List Value) (σ : Sg) (M : Mem) (Q : Po) : wp m pc ls (.float y :: .float x :: st) σ M Q = wp m npc ls (.int (Op.cmpValue (FP.fcmp x y) op) :: st) σ M Q := wp_eq hm he ls (.float y :: .float x :: st) σ M Q
theorem x_i2l {m pc npc a b d w : Nat} {cv : Value} {sw : List (Int32 × Nat)} {l : List En} (hm : mC m = l) (he : fe l pc = some (.i2l, npc, a, b, d, w, cv, sw)) (ls : Lcl) (x : Int32) (st : List Value) (σ : Sg) (M : Mem) (Q : Po) : wp m pc ls (.int x :: st) σ M Q = wp m npc ls (.long x.toInt64 :: st) σ M Q := wp_eq hm he ls (.int x :: st) σ M Q
theorem x_l2i {m pc npc a b d w : Nat} {cv : Value} {sw : List (Int32 × Nat)} {l : List En} (hm : mC m = l) (he : fe l pc = some (.l2i, npc, a, b, d, w, cv, sw)) (ls : Lcl) (x : Int64) (st : List Value) (σ : Sg) (M : Mem) (Q : Po) : wp m pc ls (.long x :: st) σ M Q = wp m npc ls (.int x.toInt32 :: st) σ M Q := wp_eq hm he ls (.long x :: st) σ M Q
theorem x_i2c {m pc npc a b d w : Nat} {cv : Value} {sw : List (Int32 × Nat)} {l : List En} (hm : mC m = l) (he : fe l pc = some (.i2c, npc, a, b, d, w, cv, sw)) (ls : Lcl) (x : Int32) (st : List Value) (σ : Sg) (M : Mem) (Q : Po) : wp m pc ls (.int x :: st) σ M Q = wp m npc ls (.int (x.toUInt32 % 65536).toInt32 :: st) σ M Q := wp_eq hm he ls (.int x :: st) σ M Q
theorem x_i2f {m pc npc a b d w : Nat} {cv : Value} {sw : List (Int32 × Nat)} {l : List En} (hm : mC m = l) (he : fe l pc = some (.i2f, npc, a, b, d, w, cv, sw)) (ls : Lcl) (x : Int32) (st : List Value) (σ : Sg) (M : Mem) (Q : Po) : wp m pc ls (.int x :: st) σ M Q = wp m npc ls (.float (FP.i2f x) :: st) σ M Q := wp_eq hm he ls (.int x :: st) σ M Q
theorem x_f2i {m pc npc a b d w : Nat} {cv : Value} {sw : List (Int32 × Nat)} {l : List En} (hm : mC m = l) (he : fe l pc = some (.f2i, npc, a, b, d, w, cv, sw)) (ls : Lcl) (x : UInt32) (st : List Value) (σ : Sg) (M : Mem) (Q : Po) : wp m pc ls (.float x :: st) σ M Q = wp m npc ls (.int (FP.f2i x) :: st) σ M Q := wp_eq hm he ls (.float x :: st) σ M Q
theorem x_dup_i {m pc npc a b d w : Nat} {cv : Value} {sw : List (Int32 × Nat)} {l : List En} (hm : mC m = l) (he : fe l pc = some (.dup, npc, a, b, d, w, cv, sw)) (ls : Lcl) (x : Int32) (st : List Value) (σ : Sg) (M : Mem) (Q : Po) : wp m pc ls (.int x :: st) σ M Q = wp m npc ls (.int x :: .int x :: st) σ M Q := wp_eq hm he ls (.int x :: st) σ M Q
theorem x_dup_r {m pc npc a b d w : Nat} {cv : Value} {sw : List (Int32 × Nat)} {l : List En} (hm : mC m = l) (he : fe l pc = some (.dup, npc, a, b, d, w, cv, sw)) (ls : Lcl) (x : Nat) (st : List Value) (σ : Sg) (M : Mem) (Q : Po) : wp m pc ls (.ref x :: st) σ M Q = wp m npc ls (.ref x :: .ref x :: st) σ M Q := wp_eq hm he ls (.ref x :: st) σ M Q
theorem x_dup_f {m pc npc a b d w : Nat} {cv : Value} {sw : List (Int32 × Nat)} {l : List En} (hm : mC m = l) (he : fe l pc = some (.dup, npc, a, b, d, w, cv, sw)) (ls : Lcl) (x : UInt32) (st : List Value) (σ : Sg) (M : Mem) (Q : Po) : wp m pc ls (.float x :: st) σ M Q = wp m npc ls (.float x :: .float x :: st) σ M Q := wp_eq hm he ls (.float x :: st) σ M Q
theorem x_dup2 {m pc npc a b d w : Nat} {cv : Value} {sw : List (Int32 × Nat)} {l : List En} (hm : mC m = l) (he : fe l pc = some (.dup2, npc, a, b, d, w, cv, sw)) (ls : Lcl) (x : Int32) (y : Nat) (st : List Value) (σ : Sg) (M : Mem) (Q : Po) : wp m pc ls (.int x :: .ref y :: st) σ M Q = wp m npc ls (.int x :: .ref y :: .int x :: .ref y :: st) σ M Q := wp_eq hm he ls (.int x :: .ref y :: st) σ M Q
theorem x_pop {m pc npc a b d w : Nat} {cv : Value} {sw : List (Int32 × Nat)} {l : List En} (hm : mC m = l) (he : fe l pc = some (.pop, npc, a, b, d, w, cv, sw)) (ls : Lcl) (x : Int32) (st : List Value) (σ : Sg) (M : Mem) (Q : Po) : wp m pc ls (.int x :: st) σ M Q = wp m npc ls st σ M Q := wp_eq hm he ls (.int x :: st) σ M Q
theorem x_goto {o : Int} {m pc npc a b d w : Nat} {cv : Value} {sw : List (Int32 × Nat)} {l : List En} (hm : mC m = l) (he : fe l pc = some ((.goto o), npc, a, b, d, w, cv, sw)) (ls : Lcl) (st : List Value) (σ : Sg) (M : Mem) (Q : Po) : wp m pc ls st σ M Q = wp m a ls st σ M Q := wp_eq hm he ls st σ M Q
theorem x_icmp_eq {o : Int} {m pc npc a b d w : Nat} {cv : Value} {sw : List (Int32 × Nat)} {l : List En} (hm : mC m = l) (he : fe l pc = some ((.if_icmp .eq o), npc, a, b, d, w, cv, sw)) (ls : Lcl) (x y : Int32) (st : List Value) (σ : Sg) (M : Mem) (Q : Po) : wp m pc ls (.int y :: .int x :: st) σ M Q = if x = y then wp m a ls st σ M Q else wp m npc ls st σ M Q := (wp_eq hm he ls (.int y :: .int x :: st) σ M Q).trans wp_jmp
theorem x_if_eq {o : Int} {m pc npc a b d w : Nat} {cv : Value} {sw : List (Int32 × Nat)} {l : List En} (hm : mC m = l) (he : fe l pc = some ((.ifCond .eq o), npc, a, b, d, w, cv, sw)) (ls : Lcl) (x : Int32) (st : List Value) (σ : Sg) (M : Mem) (Q : Po) : wp m pc ls (.int x :: st) σ M Q = if x = 0 then wp m a ls st σ M Q else wp m npc ls st σ M Q := (wp_eq hm he ls (.int x :: st) σ M Q).trans wp_jmp
theorem x_icmp_ne {o : Int} {m pc npc a b d w : Nat} {cv : Value} {sw : List (Int32 × Nat)} {l : List En} (hm : mC m = l) (he : fe l pc = some ((.if_icmp .ne o), npc, a, b, d, w, cv, sw)) (ls : Lcl) (x y : Int32) (st : List Value) (σ : Sg) (M : Mem) (Q : Po) : wp m pc ls (.int y :: .int x :: st) σ M Q = if x = y then wp m npc ls st σ M Q else wp m a ls st σ M Q := (wp_eq hm he ls (.int y :: .int x :: st) σ M Q).trans wp_jmp
theorem x_if_ne {o : Int} {m pc npc a b d w : Nat} {cv : Value} {sw : List (Int32 × Nat)} {l : List En} (hm : mC m = l) (he : fe l pc = some ((.ifCond .ne o), npc, a, b, d, w, cv, sw)) (ls : Lcl) (x : Int32) (st : List Value) (σ : Sg) (M : Mem) (Q : Po) : wp m pc ls (.int x :: st) σ M Q = if x = 0 then wp m npc ls st σ M Q else wp m a ls st σ M Q := (wp_eq hm he ls (.int x :: st) σ M Q).trans wp_jmp
theorem x_icmp_lt {o : Int} {m pc npc a b d w : Nat} {cv : Value} {sw : List (Int32 × Nat)} {l : List En} (hm : mC m = l) (he : fe l pc = some ((.if_icmp .lt o), npc, a, b, d, w, cv, sw)) (ls : Lcl) (x y : Int32) (st : List Value) (σ : Sg) (M : Mem) (Q : Po) : wp m pc ls (.int y :: .int x :: st) σ M Q = if x < y then wp m a ls st σ M Q else wp m npc ls st σ M Q := (wp_eq hm he ls (.int y :: .int x :: st) σ M Q).trans wp_jmp
theorem x_if_lt {o : Int} {m pc npc a b d w : Nat} {cv : Value} {sw : List (Int32 × Nat)} {l : List En} (hm : mC m = l) (he : fe l pc = some ((.ifCond .lt o), npc, a, b, d, w, cv, sw)) (ls : Lcl) (x : Int32) (st : List Value) (σ : Sg) (M : Mem) (Q : Po) : wp m pc ls (.int x :: st) σ M Q = if x < 0 then wp m a ls st σ M Q else wp m npc ls st σ M Q := (wp_eq hm he ls (.int x :: st) σ M Q).trans wp_jmp
theorem x_icmp_ge {o : Int} {m pc npc a b d w : Nat} {cv : Value} {sw : List (Int32 × Nat)} {l : List En} (hm : mC m = l) (he : fe l pc = some ((.if_icmp .ge o), npc, a, b, d, w, cv, sw)) (ls : Lcl) (x y : Int32) (st : List Value) (σ : Sg) (M : Mem) (Q : Po) : wp m pc ls (.int y :: .int x :: st) σ M Q = if x < y then wp m npc ls st σ M Q else wp m a ls st σ M Q := (wp_eq hm he ls (.int y :: .int x :: st) σ M Q).trans wp_jmp
theorem x_if_ge {o : Int} {m pc npc a b d w : Nat} {cv : Value} {sw : List (Int32 × Nat)} {l : List En} (hm : mC m = l) (he : fe l pc = some ((.ifCond .ge o), npc, a, b, d, w, cv, sw)) (ls : Lcl) (x : Int32) (st : List Value) (σ : Sg) (M : Mem) (Q : Po) : wp m pc ls (.int x :: st) σ M Q = if x < 0 then wp m npc ls st σ M Q else wp m a ls st σ M Q := (wp_eq hm he ls (.int x :: st) σ M Q).trans wp_jmp
theorem x_icmp_gt {o : Int} {m pc npc a b d w : Nat} {cv : Value} {sw : List (Int32 × Nat)} {l : List En} (hm : mC m = l) (he : fe l pc = some ((.if_icmp .gt o), npc, a, b, d, w, cv, sw)) (ls : Lcl) (x y : Int32) (st : List Value) (σ : Sg) (M : Mem) (Q : Po) : wp m pc ls (.int y :: .int x :: st) σ M Q = if y < x then wp m a ls st σ M Q else wp m npc ls st σ M Q := (wp_eq hm he ls (.int y :: .int x :: st) σ M Q).trans wp_jmp
theorem x_if_gt {o : Int} {m pc npc a b d w : Nat} {cv : Value} {sw : List (Int32 × Nat)} {l : List En} (hm : mC m = l) (he : fe l pc = some ((.ifCond .gt o), npc, a, b, d, w, cv, sw)) (ls : Lcl) (x : Int32) (st : List Value) (σ : Sg) (M : Mem) (Q : Po) : wp m pc ls (.int x :: st) σ M Q = if 0 < x then wp m a ls st σ M Q else wp m npc ls st σ M Q := (wp_eq hm he ls (.int x :: st) σ M Q).trans wp_jmp
theorem x_icmp_le {o : Int} {m pc npc a b d w : Nat} {cv : Value} {sw : List (Int32 × Nat)} {l : List En} (hm : mC m = l) (he : fe l pc = some ((.if_icmp .le o), npc, a, b, d, w, cv, sw)) (ls : Lcl) (x y : Int32) (st : List Value) (σ : Sg) (M : Mem) (Q : Po) : wp m pc ls (.int y :: .int x :: st) σ M Q = if y < x then wp m npc ls st σ M Q else wp m a ls st σ M Q := (wp_eq hm he ls (.int y :: .int x :: st) σ M Q).trans wp_jmp
theorem x_if_le {o : Int} {m pc npc a b d w : Nat} {cv : Value} {sw : List (Int32 × Nat)} {l : List En} (hm : mC m = l) (he : fe l pc = some ((.ifCond .le o), npc, a, b, d, w, cv, sw)) (ls : Lcl) (x : Int32) (st : List Value) (σ : Sg) (M : Mem) (Q : Po) : wp m pc ls (.int x :: st) σ M Q = if 0 < x then wp m npc ls st σ M Q else wp m a ls st σ M Q := (wp_eq hm he ls (.int x :: st) σ M Q).trans wp_jmp
theorem x_ifnull {o : Int} {m pc npc a b d w : Nat} {cv : Value} {sw : List (Int32 × Nat)} {l : List En} (hm : mC m = l) (he : fe l pc = some ((.ifnull o), npc, a, b, d, w, cv, sw)) (ls : Lcl) (x : Nat) (st : List Value) (σ : Sg) (M : Mem) (Q : Po) : wp m pc ls (.ref x :: st) σ M Q = wp m npc ls st σ M Q := wp_eq hm he ls (.ref x :: st) σ M Q
theorem x_ifnonnull {o : Int} {m pc npc a b d w : Nat} {cv : Value} {sw : List (Int32 × Nat)} {l : List En} (hm : mC m = l) (he : fe l pc = some ((.ifnonnull o), npc, a, b, d, w, cv, sw)) (ls : Lcl) (x : Nat) (st : List Value) (σ : Sg) (M : Mem) (Q : Po) : wp m pc ls (.ref x :: st) σ M Q = wp m a ls st σ M Q := wp_eq hm he ls (.ref x :: st) σ M Q
theorem x_tsw {df lo hi : Int} {offs : Array Int} {m pc npc a b d w : Nat} {cv : Value} {sw : List (Int32 × Nat)} {l : List En} (hm : mC m = l) (he : fe l pc = some ((.tableswitch df lo hi offs), npc, a, b, d, w, cv, sw)) (ls : Lcl) (x : Int32) (st : List Value) (σ : Sg) (M : Mem) (Q : Po) : wp m pc ls (.int x :: st) σ M Q = wp m (swT sw a x) ls st σ M Q := wp_eq hm he ls (.int x :: st) σ M Q
theorem x_lsw {df : Int} {ps : Array (Int × Int)} {m pc npc a b d w : Nat} {cv : Value} {sw : List (Int32 × Nat)} {l : List En} (hm : mC m = l) (he : fe l pc = some ((.lookupswitch df ps), npc, a, b, d, w, cv, sw)) (ls : Lcl) (x : Int32) (st : List Value) (σ : Sg) (M : Mem) (Q : Po) : wp m pc ls (.int x :: st) σ M Q = wp m (swT sw a x) ls st σ M Q := wp_eq hm he ls (.int x :: st) σ M Q
theorem x_getfield {i : Nat} {σ : Sg} {M : Mem} {m pc npc a b d w : Nat} {cv : Value} {sw : List (Int32 × Nat)} {l : List En} (hm : mC m = l) (he : fe l pc = some ((.getfield i), npc, a, b, d, w, cv, sw)) (ls : Lcl) (o : Nat) (h : sT σ o = a) (st : List Value) (Q : Po) : wp m pc ls (.ref o :: st) σ M Q = wp m npc ls (getF cv (sR σ o b) (M o b) :: st) σ M Q := (wp_eq hm he ls (.ref o :: st) σ M Q).trans (by
  show wpR (gd (sT σ o = a) (go npc ls (getF cv (sR σ o b) (M o b) :: st) σ M)) m npc ls σ M Q = _
  unfold gd
  rw [if_pos h]
  rfl)
theorem x_putfield {i : Nat} {cc : Int32} {σ : Sg} {M : Mem} {m pc npc a b d w : Nat} {sw : List (Int32 × Nat)} {l : List En} (hm : mC m = l) (he : fe l pc = some (.putfield i, npc, a, b, d, w, .int cc, sw)) (ls : Lcl) (o : Nat) (x : Int32) (h : sT σ o = a) (hp : putI (.int cc) x = true) (st : List Value) (Q : Po) : wp m pc ls (.int x :: .ref o :: st) σ M Q = wp m npc ls st σ (upM M o (upI (M o) b x)) Q := (wp_eq hm he ls (.int x :: .ref o :: st) σ M Q).trans (by
  show wpR (gd (sT σ o = a ∧ putI (.int cc) x = true) (go npc ls st σ (upM M o (upI (M o) b x)))) m npc ls σ M Q = _
  unfold gd
  rw [if_pos ⟨h, hp⟩]
  rfl)
theorem x_getstatic {i : Nat} {m pc npc a b d w : Nat} {cv : Value} {sw : List (Int32 × Nat)} {l : List En} (hm : mC m = l) (he : fe l pc = some ((.getstatic i), npc, a, b, d, w, cv, sw)) (ls : Lcl) (st : List Value) (σ : Sg) (M : Mem) (Q : Po) : wp m pc ls st σ M Q = wp m npc ls (.ref a :: st) σ M Q := wp_eq hm he ls st σ M Q
theorem x_alen {σ : Sg} {M : Mem} {m pc npc a b d w : Nat} {cv : Value} {sw : List (Int32 × Nat)} {l : List En} (hm : mC m = l) (he : fe l pc = some (.arraylength, npc, a, b, d, w, cv, sw)) (ls : Lcl) (o : Nat) (h : isAr (sT σ o) = true) (st : List Value) (Q : Po) : wp m pc ls (.ref o :: st) σ M Q = wp m npc ls (.int (nI (sL σ o)) :: st) σ M Q := (wp_eq hm he ls (.ref o :: st) σ M Q).trans (by
  show wpR (gd (isAr (sT σ o) = true) (go npc ls (.int (nI (sL σ o)) :: st) σ M)) m npc ls σ M Q = _
  unfold gd
  rw [if_pos h]
  rfl)
theorem ix_nI {j n : Nat} (h : j < n) (hn : n < 1000000) {K : Nat → Option Rs} : ixI (nI j) n K = K j := by
  unfold ixI
  rw [nI_clamp (by omega), if_neg]
  rintro (q | q)
  · exact absurd q (nI_pos (by omega))
  · omega
theorem x_iaload {σ : Sg} {M : Mem} {m pc npc a b d w : Nat} {cv : Value} {sw : List (Int32 × Nat)} {l : List En} (hm : mC m = l) (he : fe l pc = some (.iaload, npc, a, b, d, w, cv, sw)) (ls : Lcl) (o j : Nat) (h : isI (sT σ o) = true) (hj : j < sL σ o) (hn : sL σ o < 1000000) (st : List Value) (Q : Po) : wp m pc ls (.int (nI j) :: .ref o :: st) σ M Q = wp m npc ls (.int (M o j) :: st) σ M Q := (wp_eq hm he ls (.int (nI j) :: .ref o :: st) σ M Q).trans (by
  show wpR (gd (isI (sT σ o) = true) (ixI (nI j) (sL σ o) fun k => go npc ls (.int (M o k) :: st) σ M)) m npc ls σ M Q = _
  unfold gd
  rw [if_pos h, ix_nI hj hn]
  rfl)
theorem x_caload {σ : Sg} {M : Mem} {m pc npc a b d w : Nat} {cv : Value} {sw : List (Int32 × Nat)} {l : List En} (hm : mC m = l) (he : fe l pc = some (.caload, npc, a, b, d, w, cv, sw)) (ls : Lcl) (o j : Nat) (h : sT σ o = 1) (hj : j < sL σ o) (hn : sL σ o < 1000000) (st : List Value) (Q : Po) : wp m pc ls (.int (nI j) :: .ref o :: st) σ M Q = wp m npc ls (.int (M o j) :: st) σ M Q := (wp_eq hm he ls (.int (nI j) :: .ref o :: st) σ M Q).trans (by
  show wpR (gd (sT σ o = 1) (ixI (nI j) (sL σ o) fun k => go npc ls (.int (M o k) :: st) σ M)) m npc ls σ M Q = _
  unfold gd
  rw [if_pos h, ix_nI hj hn]
  rfl)
theorem x_aaload {σ : Sg} {M : Mem} {m pc npc a b d w : Nat} {cv : Value} {sw : List (Int32 × Nat)} {l : List En} (hm : mC m = l) (he : fe l pc = some (.aaload, npc, a, b, d, w, cv, sw)) (ls : Lcl) (o j : Nat) (h : sT σ o = 2) (hj : j < sL σ o) (hn : sL σ o < 1000000) (st : List Value) (Q : Po) : wp m pc ls (.int (nI j) :: .ref o :: st) σ M Q = wp m npc ls (va_rf (sR σ o j) :: st) σ M Q := (wp_eq hm he ls (.int (nI j) :: .ref o :: st) σ M Q).trans (by
  show wpR (gd (sT σ o = 2) (ixI (nI j) (sL σ o) fun k => go npc ls (va_rf (sR σ o k) :: st) σ M)) m npc ls σ M Q = _
  unfold gd
  rw [if_pos h, ix_nI hj hn]
  rfl)
theorem x_iastore {σ : Sg} {M : Mem} {m pc npc a b d w : Nat} {cv : Value} {sw : List (Int32 × Nat)} {l : List En} (hm : mC m = l) (he : fe l pc = some (.iastore, npc, a, b, d, w, cv, sw)) (ls : Lcl) (o j : Nat) (x : Int32) (h : sT σ o = 0) (hj : j < sL σ o) (hn : sL σ o < 1000000) (st : List Value) (Q : Po) : wp m pc ls (.int x :: .int (nI j) :: .ref o :: st) σ M Q = wp m npc ls st σ (upM M o (upI (M o) j x)) Q := (wp_eq hm he ls (.int x :: .int (nI j) :: .ref o :: st) σ M Q).trans (by
  show wpR (gd (sT σ o = 0) (ixI (nI j) (sL σ o) fun k => go npc ls st σ (upM M o (upI (M o) k x)))) m npc ls σ M Q = _
  unfold gd
  rw [if_pos h, ix_nI hj hn]
  rfl)
theorem x_castore {σ : Sg} {M : Mem} {m pc npc a b d w : Nat} {cv : Value} {sw : List (Int32 × Nat)} {l : List En} (hm : mC m = l) (he : fe l pc = some (.castore, npc, a, b, d, w, cv, sw)) (ls : Lcl) (o j : Nat) (x : Int32) (h : sT σ o = 1) (hj : j < sL σ o) (hn : sL σ o < 1000000) (st : List Value) (Q : Po) : wp m pc ls (.int x :: .int (nI j) :: .ref o :: st) σ M Q = wp m npc ls st σ (upM M o (upI (M o) j (vp_nar .char x))) Q := (wp_eq hm he ls (.int x :: .int (nI j) :: .ref o :: st) σ M Q).trans (by
  show wpR (gd (sT σ o = 1) (ixI (nI j) (sL σ o) fun k => go npc ls st σ (upM M o (upI (M o) k (vp_nar .char x))))) m npc ls σ M Q = _
  unfold gd
  rw [if_pos h, ix_nI hj hn]
  rfl)
theorem x_aastore {σ : Sg} {M : Mem} {m pc npc a b d w : Nat} {cv : Value} {sw : List (Int32 × Nat)} {l : List En} (hm : mC m = l) (he : fe l pc = some (.aastore, npc, a, b, d, w, cv, sw)) (ls : Lcl) (o j v : Nat) (h : sT σ o = 2) (hv : sT σ v = 11) (hj : j < sL σ o) (hn : sL σ o < 1000000) (st : List Value) (Q : Po) : wp m pc ls (.ref v :: .int (nI j) :: .ref o :: st) σ M Q = wp m npc ls st (setR σ o (upM (sR σ o) j (some v))) M Q := (wp_eq hm he ls (.ref v :: .int (nI j) :: .ref o :: st) σ M Q).trans (by
  show wpR (gd (sT σ o = 2 ∧ sT σ v = 11) (ixI (nI j) (sL σ o) fun k => go npc ls st (setR σ o (upM (sR σ o) k (some v))) M)) m npc ls σ M Q = _
  unfold gd
  rw [if_pos ⟨h, hv⟩, ix_nI hj hn]
  rfl)
theorem x_callS {i : Nat} {m pc npc a b d w : Nat} {cv : Value} {sw : List (Int32 × Nat)} {l : List En} (hm : mC m = l) (he : fe l pc = some ((.invokestatic i), npc, a, b, d, w, cv, sw)) (ha : a < 900) (hd : d = 0) {args rest : List Value} (ls : Lcl) (st : List Value) (hp : popA (nOf cv) st [] = some (args, rest)) (h4 : le4 rest = true) (hn : noL args = true) (σ : Sg) (M : Mem) (Q : Po) : wp m pc ls st σ M Q = wp a 0 (iniL args b) [] σ M (fun r σ1 M1 => wp m npc ls (pushR r rest) σ1 M1 Q) := (wp_eq hm he ls st σ M Q).trans (by
  simp only [stA]
  rw [if_pos ha, hp, hd]
  simp only [doCall, h4, hn]
  rfl)
theorem x_callV {i o : Nat} {m pc npc a b d w : Nat} {cv : Value} {sw : List (Int32 × Nat)} {l : List En} (hm : mC m = l) (he : fe l pc = some ((.invokevirtual i), npc, a, b, d, w, cv, sw)) {tl rest : List Value} (ls : Lcl) (st : List Value) (hp : popA (nOf cv) st [] = some (.ref o :: tl, rest)) (h4 : le4 rest = true) (hn : noL tl = true) (σ : Sg) (ht : sT σ o = d) (M : Mem) (Q : Po) : wp m pc ls st σ M Q = wp a 0 (iniL (.ref o :: tl) b) [] σ M (fun r σ1 M1 => wp m npc ls (pushR r rest) σ1 M1 Q) := (wp_eq hm he ls st σ M Q).trans (by
  simp only [stA]
  rw [hp]
  simp only [doCall, h4, show noL (.ref o :: tl) = true from hn, ht]
  by_cases h0 : d = 0
  · rw [if_pos h0]; rfl
  · rw [if_neg h0]; rfl)
theorem x_callI {i o : Nat} {m pc npc a b d w : Nat} {cv : Value} {sw : List (Int32 × Nat)} {l : List En} (hm : mC m = l) (he : fe l pc = some ((.invokespecial i), npc, a, b, d, w, cv, sw)) (ha : a < 900) {tl rest : List Value} (ls : Lcl) (st : List Value) (hp : popA (nOf cv) st [] = some (.ref o :: tl, rest)) (h4 : le4 rest = true) (hn : noL tl = true) (σ : Sg) (ht : sT σ o = d) (M : Mem) (Q : Po) : wp m pc ls st σ M Q = wp a 0 (iniL (.ref o :: tl) b) [] σ M (fun r σ1 M1 => wp m npc ls (pushR r rest) σ1 M1 Q) := (wp_eq hm he ls st σ M Q).trans (by
  simp only [stA]
  rw [if_pos ha, hp]
  simp only [doCall, h4, show noL (.ref o :: tl) = true from hn, ht]
  by_cases h0 : d = 0
  · rw [if_pos h0]; rfl
  · rw [if_neg h0]; rfl)
theorem x_max {i : Nat} {m pc npc a b d w : Nat} {cv : Value} {sw : List (Int32 × Nat)} {l : List En} (hm : mC m = l) (he : fe l pc = some ((.invokestatic i), npc, a, b, d, w, cv, sw)) (ha : a = 901) (ls : Lcl) (x y : Int32) (st : List Value) (h4 : le4 st = true) (σ : Sg) (M : Mem) (Q : Po) : wp m pc ls (.int y :: .int x :: st) σ M Q = wp m npc ls (.int (if x < y then y else x) :: st) σ M Q := (wp_eq hm he ls (.int y :: .int x :: st) σ M Q).trans (by
  subst ha
  simp only [stA, spec]
  rw [if_neg (by decide), if_neg (by decide), if_pos (by decide)]
  show wpR (gd (le4 st = true) _) m npc ls σ M Q = _
  unfold gd
  rw [if_pos h4]
  rfl)
theorem x_min {i : Nat} {m pc npc a b d w : Nat} {cv : Value} {sw : List (Int32 × Nat)} {l : List En} (hm : mC m = l) (he : fe l pc = some ((.invokestatic i), npc, a, b, d, w, cv, sw)) (ha : a = 902) (ls : Lcl) (x y : Int32) (st : List Value) (h4 : le4 st = true) (σ : Sg) (M : Mem) (Q : Po) : wp m pc ls (.int y :: .int x :: st) σ M Q = wp m npc ls (.int (if y < x then y else x) :: st) σ M Q := (wp_eq hm he ls (.int y :: .int x :: st) σ M Q).trans (by
  subst ha
  simp only [stA, spec]
  rw [if_neg (by decide), if_neg (by decide), if_neg (by decide), if_pos (by decide)]
  show wpR (gd (le4 st = true) _) m npc ls σ M Q = _
  unfold gd
  rw [if_pos h4]
  rfl)
theorem x_raw {i : Nat} {m pc npc a b d w : Nat} {cv : Value} {sw : List (Int32 × Nat)} {l : List En} (hm : mC m = l) (he : fe l pc = some ((.invokestatic i), npc, a, b, d, w, cv, sw)) (ha : a = 903) (ls : Lcl) (x : UInt32) (st : List Value) (h4 : le4 st = true) (σ : Sg) (M : Mem) (Q : Po) : wp m pc ls (.float x :: st) σ M Q = wp m npc ls (.int x.toInt32 :: st) σ M Q := (wp_eq hm he ls (.float x :: st) σ M Q).trans (by
  subst ha
  simp only [stA, spec]
  rw [if_neg (by decide), if_neg (by decide), if_neg (by decide), if_neg (by decide)]
  show wpR (gd (le4 st = true) _) m npc ls σ M Q = _
  unfold gd
  rw [if_pos h4]
  rfl)
theorem x_ireturn {m pc npc a b d w : Nat} {cv : Value} {sw : List (Int32 × Nat)} {l : List En} (hm : mC m = l) (he : fe l pc = some (.ireturn, npc, a, b, d, w, cv, sw)) (ls : Lcl) (x : Int32) (h : okR cv x = true) (σ : Sg) (M : Mem) (Q : Po) : wp m pc ls [.int x] σ M Q = Q (some (.int x)) σ M := (wp_eq hm he ls [.int x] σ M Q).trans (by
  show wpR (gd (okR cv x = true) _) m npc ls σ M Q = _
  unfold gd
  rw [if_pos h]
  rfl)
theorem x_return {m pc npc a b d w : Nat} {cv : Value} {sw : List (Int32 × Nat)} {l : List En} (hm : mC m = l) (he : fe l pc = some (.return_, npc, a, b, d, w, cv, sw)) (ls : Lcl) (σ : Sg) (M : Mem) (Q : Po) : wp m pc ls [] σ M Q = Q none σ M := wp_eq hm he ls [] σ M Q
/-- a loop that counts up, as a chain of equations -/
theorem wp_up {m pc n : Nat} {σ : Sg} (A : Nat → Lcl) (B : Nat → Mem) (Q : Po) (h : ∀ k, k < n → wp m pc (A k) [] σ (B k) Q = wp m pc (A (k + 1)) [] σ (B (k + 1)) Q) : wp m pc (A 0) [] σ (B 0) Q = wp m pc (A n) [] σ (B n) Q := by
  have key : ∀ k, k ≤ n → wp m pc (A 0) [] σ (B 0) Q = wp m pc (A k) [] σ (B k) Q := by
    intro k
    induction k with
    | zero => intro _; rfl
    | succ k ih => intro hk; rw [ih (by omega), h k (by omega)]
  exact key n (Nat.le_refl n)
theorem okR_i {x : Int32} : okR (.int (nI 0)) x = true := id rfl
theorem okR_0 : okR (.int (nI 1)) (nI 0) = true := by decide
theorem okR_1 : okR (.int (nI 1)) (nI 1) = true := by decide
theorem okR_z : okR (.int (nI 1)) 0 = true := by decide
theorem okR_o : okR (.int (nI 1)) 1 = true := by decide
theorem okR_c {k : Nat} (h : k < 65536) : okR (.int (nI 2)) (nI k) = true := by
  have e := (pk_charN h).1
  simp only [okR, show ¬ nI 2 = 0 from by decide, show ¬ nI 2 = 1 from by decide, if_false, okC]
  have h2 : ((nI k).toUInt32 % 65536).toInt32 = nI k := by
    rw [pk_char, pk_tn (by omega), Nat.mod_eq_of_lt h]
  rw [h2]
  exact beq_self_eq_true _
theorem putI_0 {x : Int32} : putI (.int (nI 0)) x = true := id rfl
theorem putI_b0 : putI (.int (nI 1)) (nI 0) = true := by decide
theorem putI_b1 : putI (.int (nI 1)) (nI 1) = true := by decide
theorem isLong_n : isLong none = false := id rfl
theorem isLong_i {x : Int32} : isLong (some (.int x)) = false := id rfl
theorem isLong_r {x : Nat} : isLong (some (.ref x)) = false := id rfl
theorem isLong_f {x : UInt32} : isLong (some (.float x)) = false := id rfl
theorem le4_0 : le4 [] = true := id rfl
theorem le4_1 {a : Value} : le4 [a] = true := id rfl
theorem le4_2 {a b : Value} : le4 [a, b] = true := id rfl
theorem le4_3 {a b c : Value} : le4 [a, b, c] = true := id rfl
theorem le4_4 {a b c d : Value} : le4 [a, b, c, d] = true := id rfl
theorem pushR_s {v : Value} {st : List Value} : pushR (some v) st = v :: st := id rfl
theorem pushR_n {st : List Value} : pushR none st = st := id rfl
theorem rf_s {k : Nat} : va_rf (some k) = .ref k := id rfl
theorem na_0 {ls : Lcl} : narrowAt ls 0 = true := id rfl
theorem na_1 {a : Option Value} {ls : Lcl} (h : isLong a = false) : narrowAt (a :: ls) 1 = true := by
  show (!isLong a) = true
  rw [h]; rfl
theorem na_2 {a0 a1 : Option Value} {ls : Lcl} (h : isLong a1 = false) : narrowAt (a0 :: a1 :: ls) 2 = true := by
  show (!isLong a1) = true
  rw [h]; rfl
theorem na_3 {a0 a1 a2 : Option Value} {ls : Lcl} (h : isLong a2 = false) : narrowAt (a0 :: a1 :: a2 :: ls) 3 = true := by
  show (!isLong a2) = true
  rw [h]; rfl
theorem na_4 {a0 a1 a2 a3 : Option Value} {ls : Lcl} (h : isLong a3 = false) : narrowAt (a0 :: a1 :: a2 :: a3 :: ls) 4 = true := by
  show (!isLong a3) = true
  rw [h]; rfl
theorem na_5 {a0 a1 a2 a3 a4 : Option Value} {ls : Lcl} (h : isLong a4 = false) : narrowAt (a0 :: a1 :: a2 :: a3 :: a4 :: ls) 5 = true := by
  show (!isLong a4) = true
  rw [h]; rfl
theorem na_6 {a0 a1 a2 a3 a4 a5 : Option Value} {ls : Lcl} (h : isLong a5 = false) : narrowAt (a0 :: a1 :: a2 :: a3 :: a4 :: a5 :: ls) 6 = true := by
  show (!isLong a5) = true
  rw [h]; rfl
theorem na_7 {a0 a1 a2 a3 a4 a5 a6 : Option Value} {ls : Lcl} (h : isLong a6 = false) : narrowAt (a0 :: a1 :: a2 :: a3 :: a4 :: a5 :: a6 :: ls) 7 = true := by
  show (!isLong a6) = true
  rw [h]; rfl
theorem x_lload {k : Nat} {m pc npc a b d w : Nat} {cv : Value} {sw : List (Int32 × Nat)} {l : List En} (hm : mC m = l) (he : fe l pc = some ((.lload k), npc, a, b, d, w, cv, sw)) (ls : Lcl) (x : Int64) (h : lget ls k = some (.long x)) (st : List Value) (σ : Sg) (M : Mem) (Q : Po) : wp m pc ls st σ M Q = wp m npc ls (.long x :: st) σ M Q := (wp_eq hm he ls st σ M Q).trans (by simp only [stA, h]; rfl)
theorem x_lstore {k : Nat} {m pc npc a b d w : Nat} {cv : Value} {sw : List (Int32 × Nat)} {l : List En} (hm : mC m = l) (he : fe l pc = some ((.lstore k), npc, a, b, d, w, cv, sw)) (ls : Lcl) (x : Int64) (h1 : k + 1 < ls.length) (h2 : narrowAt ls k = true) (st : List Value) (σ : Sg) (M : Mem) (Q : Po) : wp m pc ls (.long x :: st) σ M Q = wp m npc (lset (lset ls (k + 1) none) k (some (.long x))) st σ M Q := (wp_eq hm he ls (.long x :: st) σ M Q).trans (by
  show wpR (st2 ls k (.long x) fun ls => go npc ls st σ M) m npc ls σ M Q = _
  unfold st2 gd
  rw [if_pos ⟨h1, h2⟩]
  rfl)
theorem x_ladd {m pc npc a b d w : Nat} {cv : Value} {sw : List (Int32 × Nat)} {l : List En} (hm : mC m = l) (he : fe l pc = some (.ladd, npc, a, b, d, w, cv, sw)) (ls : Lcl) (x y : Int64) (st : List Value) (σ : Sg) (M : Mem) (Q : Po) : wp m pc ls (.long y :: .long x :: st) σ M Q = wp m npc ls (.long (x + y) :: st) σ M Q := wp_eq hm he ls (.long y :: .long x :: st) σ M Q
theorem x_lcmp {m pc npc a b d w : Nat} {cv : Value} {sw : List (Int32 × Nat)} {l : List En} (hm : mC m = l) (he : fe l pc = some (.lcmp, npc, a, b, d, w, cv, sw)) (ls : Lcl) (x y : Int64) (st : List Value) (σ : Sg) (M : Mem) (Q : Po) : wp m pc ls (.long y :: .long x :: st) σ M Q = wp m npc ls (.int (lg_cmp x y) :: st) σ M Q := wp_eq hm he ls (.long y :: .long x :: st) σ M Q
theorem x_lreturn {m pc npc a b d w : Nat} {cv : Value} {sw : List (Int32 × Nat)} {l : List En} (hm : mC m = l) (he : fe l pc = some (.lreturn, npc, a, b, d, w, cv, sw)) (ls : Lcl) (x : Int64) (σ : Sg) (M : Mem) (Q : Po) : wp m pc ls [.long x] σ M Q = Q (some (.long x)) σ M := wp_eq hm he ls [.long x] σ M Q
theorem isLong_l {x : Int64} : isLong (some (.long x)) = true := id rfl
theorem na_8 {a0 a1 a2 a3 a4 a5 a6 a7 : Option Value} {ls : Lcl} (h : isLong a7 = false) : narrowAt (a0 :: a1 :: a2 :: a3 :: a4 :: a5 :: a6 :: a7 :: ls) 8 = true := by
  show (!isLong a7) = true
  rw [h]; rfl
theorem na_9 {a0 a1 a2 a3 a4 a5 a6 a7 a8 : Option Value} {ls : Lcl} (h : isLong a8 = false) : narrowAt (a0 :: a1 :: a2 :: a3 :: a4 :: a5 :: a6 :: a7 :: a8 :: ls) 9 = true := by
  show (!isLong a8) = true
  rw [h]; rfl
theorem na_10 {a0 a1 a2 a3 a4 a5 a6 a7 a8 a9 : Option Value} {ls : Lcl} (h : isLong a9 = false) : narrowAt (a0 :: a1 :: a2 :: a3 :: a4 :: a5 :: a6 :: a7 :: a8 :: a9 :: ls) 10 = true := by
  show (!isLong a9) = true
  rw [h]; rfl
theorem na_11 {a0 a1 a2 a3 a4 a5 a6 a7 a8 a9 a10 : Option Value} {ls : Lcl} (h : isLong a10 = false) : narrowAt (a0 :: a1 :: a2 :: a3 :: a4 :: a5 :: a6 :: a7 :: a8 :: a9 :: a10 :: ls) 11 = true := by
  show (!isLong a10) = true
  rw [h]; rfl
theorem na_12 {a0 a1 a2 a3 a4 a5 a6 a7 a8 a9 a10 a11 : Option Value} {ls : Lcl} (h : isLong a11 = false) : narrowAt (a0 :: a1 :: a2 :: a3 :: a4 :: a5 :: a6 :: a7 :: a8 :: a9 :: a10 :: a11 :: ls) 12 = true := by
  show (!isLong a11) = true
  rw [h]; rfl
theorem na_13 {a0 a1 a2 a3 a4 a5 a6 a7 a8 a9 a10 a11 a12 : Option Value} {ls : Lcl} (h : isLong a12 = false) : narrowAt (a0 :: a1 :: a2 :: a3 :: a4 :: a5 :: a6 :: a7 :: a8 :: a9 :: a10 :: a11 :: a12 :: ls) 13 = true := by
  show (!isLong a12) = true
  rw [h]; rfl
