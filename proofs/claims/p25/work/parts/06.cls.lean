theorem uw_0 : ∀ w ∈ u_ws (cN 0) (cT 0) (cF 0), w ∈ lwG := fun w hw => by
  obtain ⟨k, hk, rfl⟩ := List.mem_map.mp hw
  have hk : k < 3 := List.mem_range.mp hk
  match k, hk with
  | 0, _ => exact lwG_of wd_177 rfl
  | 1, _ => exact lwG_of wd_179 rfl
  | 2, _ => exact lwG_of wd_181 rfl
  | k + 3, hk => exact absurd hk (by omega)
theorem uw_1 : ∀ w ∈ u_ws (cN 1) (cT 1) (cF 1), w ∈ lwG := fun w hw => by
  obtain ⟨k, hk, rfl⟩ := List.mem_map.mp hw
  have hk : k < 17 := List.mem_range.mp hk
  match k, hk with
  | 0, _ => exact lwG_of wd_113 rfl
  | 1, _ => exact lwG_of wd_115 rfl
  | 2, _ => exact lwG_of wd_117 rfl
  | 3, _ => exact lwG_of wd_119 rfl
  | 4, _ => exact lwG_of wd_121 rfl
  | 5, _ => exact lwG_of wd_123 rfl
  | 6, _ => exact lwG_of wd_125 rfl
  | 7, _ => exact lwG_of wd_127 rfl
  | 8, _ => exact lwG_of wd_129 rfl
  | 9, _ => exact lwG_of wd_131 rfl
  | 10, _ => exact lwG_of wd_133 rfl
  | 11, _ => exact lwG_of wd_135 rfl
  | 12, _ => exact lwG_of wd_137 rfl
  | 13, _ => exact lwG_of wd_139 rfl
  | 14, _ => exact lwG_of wd_141 rfl
  | 15, _ => exact lwG_of wd_143 rfl
  | 16, _ => exact lwG_of wd_145 rfl
  | k + 17, hk => exact absurd hk (by omega)
theorem uw_2 : ∀ w ∈ u_ws (cN 2) (cT 2) (cF 2), w ∈ lwG := fun w hw => by
  obtain ⟨k, hk, rfl⟩ := List.mem_map.mp hw
  have hk : k < 2 := List.mem_range.mp hk
  match k, hk with
  | 0, _ => exact lwG_of wd_160 rfl
  | 1, _ => exact lwG_of wd_162 rfl
  | k + 2, hk => exact absurd hk (by omega)
theorem uw_3 : ∀ w ∈ u_ws (cN 3) (cT 3) (cF 3), w ∈ lwG := fun w hw => by
  obtain ⟨k, hk, rfl⟩ := List.mem_map.mp hw
  have hk : k < 8 := List.mem_range.mp hk
  match k, hk with
  | 0, _ => exact lwG_of wd_218 rfl
  | 1, _ => exact lwG_of wd_220 rfl
  | 2, _ => exact lwG_of wd_222 rfl
  | 3, _ => exact lwG_of wd_224 rfl
  | 4, _ => exact lwG_of wd_226 rfl
  | 5, _ => exact lwG_of wd_228 rfl
  | 6, _ => exact lwG_of wd_230 rfl
  | 7, _ => exact lwG_of wd_232 rfl
  | k + 8, hk => exact absurd hk (by omega)
theorem uw_4 : ∀ w ∈ u_ws (cN 4) (cT 4) (cF 4), w ∈ lwG := fun w hw => by
  obtain ⟨k, hk, rfl⟩ := List.mem_map.mp hw
  have hk : k < 2 := List.mem_range.mp hk
  match k, hk with
  | 0, _ => exact lwG_of wd_195 rfl
  | 1, _ => exact lwG_of wd_197 rfl
  | k + 2, hk => exact absurd hk (by omega)
theorem uw_5 : ∀ w ∈ u_ws (cN 5) (cT 5) (cF 5), w ∈ lwG := fun w hw => by
  obtain ⟨k, hk, rfl⟩ := List.mem_map.mp hw
  have hk : k < 5 := List.mem_range.mp hk
  match k, hk with
  | 0, _ => exact lwG_of wd_53 rfl
  | 1, _ => exact lwG_of wd_55 rfl
  | 2, _ => exact lwG_of wd_57 rfl
  | 3, _ => exact lwG_of wd_59 rfl
  | 4, _ => exact lwG_of wd_61 rfl
  | k + 5, hk => exact absurd hk (by omega)
theorem uw_6 : ∀ w ∈ u_ws (cN 6) (cT 6) (cF 6), w ∈ lwG := fun w hw => by
  obtain ⟨k, hk, rfl⟩ := List.mem_map.mp hw
  have hk : k < 6 := List.mem_range.mp hk
  match k, hk with
  | 0, _ => exact lwG_of wd_242 rfl
  | 1, _ => exact lwG_of wd_244 rfl
  | 2, _ => exact lwG_of wd_246 rfl
  | 3, _ => exact lwG_of wd_248 rfl
  | 4, _ => exact lwG_of wd_250 rfl
  | 5, _ => exact lwG_of wd_252 rfl
  | k + 6, hk => exact absurd hk (by omega)
theorem uw_ok : ∀ c, c < 7 → ∀ w ∈ u_ws (cN c) (cT c) (cF c), w ∈ lwG := fun c hc => by
  match c, hc with
  | 0, _ => exact uw_0
  | 1, _ => exact uw_1
  | 2, _ => exact uw_2
  | 3, _ => exact uw_3
  | 4, _ => exact uw_4
  | 5, _ => exact uw_5
  | 6, _ => exact uw_6
  | c + 7, hc => exact absurd hc (by omega)
theorem vw_ok : ∀ c, c < 7 → vwCl[c]? = some (cN c, cT c, cF c) := fun c hc => by
  match c, hc with
  | 0, _ => exact rfl
  | 1, _ => exact rfl
  | 2, _ => exact rfl
  | 3, _ => exact rfl
  | 4, _ => exact rfl
  | 5, _ => exact rfl
  | 6, _ => exact rfl
  | c + 7, hc => exact absurd hc (by omega)
theorem ty_ok : ∀ c, c < 7 → ∀ k, k < cF c → parseFieldDescriptor (cT c k).2.2.1 = some (cY c k) := fun c hc => by
  match c, hc with
  | 0, _ => exact tyX0_ok
  | 1, _ => exact tyX1_ok
  | 2, _ => exact tyX2_ok
  | 3, _ => exact tyX3_ok
  | 4, _ => exact tyX4_ok
  | 5, _ => exact tyX5_ok
  | 6, _ => exact tyX6_ok
  | c + 7, hc => exact absurd hc (by omega)
theorem nm_ok : ∀ c, c < 7 → ∀ a, a < cF c → ∀ b, b < cF c → a ≠ b → (cT c a).2.1 ≠ (cT c b).2.1 := fun c hc => by
  match c, hc with
  | 0, _ => exact nmX0
  | 1, _ => exact nmX1
  | 2, _ => exact nmX2
  | 3, _ => exact nmX3
  | 4, _ => exact nmX4
  | 5, _ => exact nmX5
  | 6, _ => exact nmX6
  | c + 7, hc => exact absurd hc (by omega)
theorem in_ok : ∀ c, c < 7 → Cond.instantiable (cN c) (cF c) ∈ lw_tbl := fun c hc => by
  match c, hc with
  | 0, _ => exact wd_166
  | 1, _ => exact wd_31
  | 2, _ => exact wd_149
  | 3, _ => exact wd_201
  | 4, _ => exact wd_185
  | 5, _ => exact wd_37
  | 6, _ => exact wd_23
  | c + 7, hc => exact absurd hc (by omega)
theorem it_ok : ∀ c, c < 7 → Cond.initialized (cN c) ∈ lw_tbl := fun c hc => by
  match c, hc with
  | 0, _ => exact wd_18
  | 1, _ => exact wd_15
  | 2, _ => exact wd_17
  | 3, _ => exact wd_20
  | 4, _ => exact wd_19
  | 5, _ => exact wd_16
  | 6, _ => exact wd_14
  | c + 7, hc => exact absurd hc (by omega)
theorem dv_0 (ad : Nat → Nat) : ∀ k, k < cF 0 → defaultValue (cY 0 k) = fldV ad none 0 (tcv (cY 0 k)) := fun k hk => by
  have hk : k < 3 := hk
  match k, hk with
  | 0, _ => rfl
  | 1, _ => rfl
  | 2, _ => rfl
  | k + 3, hk => exact absurd hk (by omega)
theorem dv_1 (ad : Nat → Nat) : ∀ k, k < cF 1 → defaultValue (cY 1 k) = fldV ad none 0 (tcv (cY 1 k)) := fun k hk => by
  have hk : k < 17 := hk
  match k, hk with
  | 0, _ => rfl
  | 1, _ => rfl
  | 2, _ => rfl
  | 3, _ => rfl
  | 4, _ => rfl
  | 5, _ => rfl
  | 6, _ => rfl
  | 7, _ => rfl
  | 8, _ => rfl
  | 9, _ => rfl
  | 10, _ => rfl
  | 11, _ => rfl
  | 12, _ => rfl
  | 13, _ => rfl
  | 14, _ => rfl
  | 15, _ => rfl
  | 16, _ => rfl
  | k + 17, hk => exact absurd hk (by omega)
theorem dv_2 (ad : Nat → Nat) : ∀ k, k < cF 2 → defaultValue (cY 2 k) = fldV ad none 0 (tcv (cY 2 k)) := fun k hk => by
  have hk : k < 2 := hk
  match k, hk with
  | 0, _ => rfl
  | 1, _ => rfl
  | k + 2, hk => exact absurd hk (by omega)
theorem dv_3 (ad : Nat → Nat) : ∀ k, k < cF 3 → defaultValue (cY 3 k) = fldV ad none 0 (tcv (cY 3 k)) := fun k hk => by
  have hk : k < 8 := hk
  match k, hk with
  | 0, _ => rfl
  | 1, _ => rfl
  | 2, _ => rfl
  | 3, _ => rfl
  | 4, _ => rfl
  | 5, _ => rfl
  | 6, _ => rfl
  | 7, _ => rfl
  | k + 8, hk => exact absurd hk (by omega)
theorem dv_4 (ad : Nat → Nat) : ∀ k, k < cF 4 → defaultValue (cY 4 k) = fldV ad none 0 (tcv (cY 4 k)) := fun k hk => by
  have hk : k < 2 := hk
  match k, hk with
  | 0, _ => rfl
  | 1, _ => rfl
  | k + 2, hk => exact absurd hk (by omega)
theorem dv_5 (ad : Nat → Nat) : ∀ k, k < cF 5 → defaultValue (cY 5 k) = fldV ad none 0 (tcv (cY 5 k)) := fun k hk => by
  have hk : k < 5 := hk
  match k, hk with
  | 0, _ => rfl
  | 1, _ => rfl
  | 2, _ => rfl
  | 3, _ => rfl
  | 4, _ => rfl
  | k + 5, hk => exact absurd hk (by omega)
theorem dv_6 (ad : Nat → Nat) : ∀ k, k < cF 6 → defaultValue (cY 6 k) = fldV ad none 0 (tcv (cY 6 k)) := fun k hk => by
  have hk : k < 6 := hk
  match k, hk with
  | 0, _ => rfl
  | 1, _ => rfl
  | 2, _ => rfl
  | 3, _ => rfl
  | 4, _ => rfl
  | 5, _ => rfl
  | k + 6, hk => exact absurd hk (by omega)
theorem dv_ok : ∀ c, c < 7 → ∀ ad : Nat → Nat, ∀ k, k < cF c → defaultValue (cY c k) = fldV ad none 0 (tcv (cY c k)) := fun c hc => by
  match c, hc with
  | 0, _ => exact dv_0
  | 1, _ => exact dv_1
  | 2, _ => exact dv_2
  | 3, _ => exact dv_3
  | 4, _ => exact dv_4
  | 5, _ => exact dv_5
  | 6, _ => exact dv_6
  | c + 7, hc => exact absurd hc (by omega)
theorem rf_0 : ∀ k, k < cF 0 → tcv (cY 0 k) = .null → (cY 0 k).isReference = true := fun k hk => by
  have hk : k < 3 := hk
  match k, hk with
  | 0, _ => exact fun _ => rfl
  | 1, _ => exact fun _ => rfl
  | 2, _ => exact fun _ => rfl
  | k + 3, hk => exact absurd hk (by omega)
theorem rf_1 : ∀ k, k < cF 1 → tcv (cY 1 k) = .null → (cY 1 k).isReference = true := fun k hk => by
  have hk : k < 17 := hk
  match k, hk with
  | 0, _ => exact fun h => Value.noConfusion h
  | 1, _ => exact fun _ => rfl
  | 2, _ => exact fun _ => rfl
  | 3, _ => exact fun h => Value.noConfusion h
  | 4, _ => exact fun _ => rfl
  | 5, _ => exact fun _ => rfl
  | 6, _ => exact fun _ => rfl
  | 7, _ => exact fun _ => rfl
  | 8, _ => exact fun _ => rfl
  | 9, _ => exact fun _ => rfl
  | 10, _ => exact fun h => Value.noConfusion h
  | 11, _ => exact fun h => Value.noConfusion h
  | 12, _ => exact fun _ => rfl
  | 13, _ => exact fun h => Value.noConfusion h
  | 14, _ => exact fun _ => rfl
  | 15, _ => exact fun _ => rfl
  | 16, _ => exact fun h => Value.noConfusion h
  | k + 17, hk => exact absurd hk (by omega)
theorem rf_2 : ∀ k, k < cF 2 → tcv (cY 2 k) = .null → (cY 2 k).isReference = true := fun k hk => by
  have hk : k < 2 := hk
  match k, hk with
  | 0, _ => exact fun _ => rfl
  | 1, _ => exact fun h => Value.noConfusion h
  | k + 2, hk => exact absurd hk (by omega)
theorem rf_3 : ∀ k, k < cF 3 → tcv (cY 3 k) = .null → (cY 3 k).isReference = true := fun k hk => by
  have hk : k < 8 := hk
  match k, hk with
  | 0, _ => exact fun _ => rfl
  | 1, _ => exact fun h => Value.noConfusion h
  | 2, _ => exact fun h => Value.noConfusion h
  | 3, _ => exact fun _ => rfl
  | 4, _ => exact fun h => Value.noConfusion h
  | 5, _ => exact fun h => Value.noConfusion h
  | 6, _ => exact fun h => Value.noConfusion h
  | 7, _ => exact fun h => Value.noConfusion h
  | k + 8, hk => exact absurd hk (by omega)
theorem rf_4 : ∀ k, k < cF 4 → tcv (cY 4 k) = .null → (cY 4 k).isReference = true := fun k hk => by
  have hk : k < 2 := hk
  match k, hk with
  | 0, _ => exact fun _ => rfl
  | 1, _ => exact fun _ => rfl
  | k + 2, hk => exact absurd hk (by omega)
theorem rf_5 : ∀ k, k < cF 5 → tcv (cY 5 k) = .null → (cY 5 k).isReference = true := fun k hk => by
  have hk : k < 5 := hk
  match k, hk with
  | 0, _ => exact fun _ => rfl
  | 1, _ => exact fun h => Value.noConfusion h
  | 2, _ => exact fun h => Value.noConfusion h
  | 3, _ => exact fun h => Value.noConfusion h
  | 4, _ => exact fun h => Value.noConfusion h
  | k + 5, hk => exact absurd hk (by omega)
theorem rf_6 : ∀ k, k < cF 6 → tcv (cY 6 k) = .null → (cY 6 k).isReference = true := fun k hk => by
  have hk : k < 6 := hk
  match k, hk with
  | 0, _ => exact fun _ => rfl
  | 1, _ => exact fun _ => rfl
  | 2, _ => exact fun _ => rfl
  | 3, _ => exact fun _ => rfl
  | 4, _ => exact fun _ => rfl
  | 5, _ => exact fun _ => rfl
  | k + 6, hk => exact absurd hk (by omega)
theorem rf_ok : ∀ c, c < 7 → ∀ k, k < cF c → tcv (cY c k) = .null → (cY c k).isReference = true := fun c hc => by
  match c, hc with
  | 0, _ => exact rf_0
  | 1, _ => exact rf_1
  | 2, _ => exact rf_2
  | 3, _ => exact rf_3
  | 4, _ => exact rf_4
  | 5, _ => exact rf_5
  | 6, _ => exact rf_6
  | c + 7, hc => exact absurd hc (by omega)
theorem wk_mc : Cond.code Lib.Math.max.name Lib.Math.max.code 2 (some .int) ∈ lw_tbl := wd_288
theorem wk_nc : Cond.code Lib.Math.min.name Lib.Math.min.code 2 (some .int) ∈ lw_tbl := wd_368
theorem wk_ms : Cond.static Lib.Math.max.name ∈ lw_tbl := wd_287
theorem wk_ns : Cond.static Lib.Math.min.name ∈ lw_tbl := wd_367
theorem wk_mi : Cond.initialized "java/lang/Math" ∈ lw_tbl := wd_21
theorem wk_oi : Cond.instanceMethod Lib.objectInit ∈ lw_tbl := wd_28
theorem wk_oc : Cond.code Lib.objectInit ⟨#[0xb1]⟩ 1 none ∈ lw_tbl := wd_29
theorem wk_ai : Cond.arrayClass .int ∈ lw_tbl := wd_64
theorem wk_ac : Cond.arrayClass .char ∈ lw_tbl := wd_235
