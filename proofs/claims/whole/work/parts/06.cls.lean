theorem uw_0 : ∀ w ∈ u_ws (cN 0) (cT 0) (cF 0), w ∈ lwG := fun w hw => by
  obtain ⟨k, hk, rfl⟩ := List.mem_map.mp hw
  have hk : k < 3 := List.mem_range.mp hk
  match k, hk with
  | 0, _ => exact lwG_of wd_217 rfl
  | 1, _ => exact lwG_of wd_219 rfl
  | 2, _ => exact lwG_of wd_221 rfl
  | k + 3, hk => exact absurd hk (by omega)
theorem uw_1 : ∀ w ∈ u_ws (cN 1) (cT 1) (cF 1), w ∈ lwG := fun w hw => by
  obtain ⟨k, hk, rfl⟩ := List.mem_map.mp hw
  have hk : k < 17 := List.mem_range.mp hk
  match k, hk with
  | 0, _ => exact lwG_of wd_153 rfl
  | 1, _ => exact lwG_of wd_155 rfl
  | 2, _ => exact lwG_of wd_157 rfl
  | 3, _ => exact lwG_of wd_159 rfl
  | 4, _ => exact lwG_of wd_161 rfl
  | 5, _ => exact lwG_of wd_163 rfl
  | 6, _ => exact lwG_of wd_165 rfl
  | 7, _ => exact lwG_of wd_167 rfl
  | 8, _ => exact lwG_of wd_169 rfl
  | 9, _ => exact lwG_of wd_171 rfl
  | 10, _ => exact lwG_of wd_173 rfl
  | 11, _ => exact lwG_of wd_175 rfl
  | 12, _ => exact lwG_of wd_177 rfl
  | 13, _ => exact lwG_of wd_179 rfl
  | 14, _ => exact lwG_of wd_181 rfl
  | 15, _ => exact lwG_of wd_183 rfl
  | 16, _ => exact lwG_of wd_185 rfl
  | k + 17, hk => exact absurd hk (by omega)
theorem uw_2 : ∀ w ∈ u_ws (cN 2) (cT 2) (cF 2), w ∈ lwG := fun w hw => by
  obtain ⟨k, hk, rfl⟩ := List.mem_map.mp hw
  have hk : k < 2 := List.mem_range.mp hk
  match k, hk with
  | 0, _ => exact lwG_of wd_200 rfl
  | 1, _ => exact lwG_of wd_202 rfl
  | k + 2, hk => exact absurd hk (by omega)
theorem uw_3 : ∀ w ∈ u_ws (cN 3) (cT 3) (cF 3), w ∈ lwG := fun w hw => by
  obtain ⟨k, hk, rfl⟩ := List.mem_map.mp hw
  have hk : k < 8 := List.mem_range.mp hk
  match k, hk with
  | 0, _ => exact lwG_of wd_258 rfl
  | 1, _ => exact lwG_of wd_260 rfl
  | 2, _ => exact lwG_of wd_262 rfl
  | 3, _ => exact lwG_of wd_264 rfl
  | 4, _ => exact lwG_of wd_266 rfl
  | 5, _ => exact lwG_of wd_268 rfl
  | 6, _ => exact lwG_of wd_270 rfl
  | 7, _ => exact lwG_of wd_272 rfl
  | k + 8, hk => exact absurd hk (by omega)
theorem uw_4 : ∀ w ∈ u_ws (cN 4) (cT 4) (cF 4), w ∈ lwG := fun w hw => by
  obtain ⟨k, hk, rfl⟩ := List.mem_map.mp hw
  have hk : k < 2 := List.mem_range.mp hk
  match k, hk with
  | 0, _ => exact lwG_of wd_235 rfl
  | 1, _ => exact lwG_of wd_237 rfl
  | k + 2, hk => exact absurd hk (by omega)
theorem uw_5 : ∀ w ∈ u_ws (cN 5) (cT 5) (cF 5), w ∈ lwG := fun w hw => by
  obtain ⟨k, hk, rfl⟩ := List.mem_map.mp hw
  have hk : k < 5 := List.mem_range.mp hk
  match k, hk with
  | 0, _ => exact lwG_of wd_93 rfl
  | 1, _ => exact lwG_of wd_95 rfl
  | 2, _ => exact lwG_of wd_97 rfl
  | 3, _ => exact lwG_of wd_99 rfl
  | 4, _ => exact lwG_of wd_101 rfl
  | k + 5, hk => exact absurd hk (by omega)
theorem uw_6 : ∀ w ∈ u_ws (cN 6) (cT 6) (cF 6), w ∈ lwG := fun w hw => by
  obtain ⟨k, hk, rfl⟩ := List.mem_map.mp hw
  have hk : k < 6 := List.mem_range.mp hk
  match k, hk with
  | 0, _ => exact lwG_of wd_282 rfl
  | 1, _ => exact lwG_of wd_284 rfl
  | 2, _ => exact lwG_of wd_286 rfl
  | 3, _ => exact lwG_of wd_288 rfl
  | 4, _ => exact lwG_of wd_290 rfl
  | 5, _ => exact lwG_of wd_292 rfl
  | k + 6, hk => exact absurd hk (by omega)
theorem uw_7 : ∀ w ∈ u_ws (cN 7) (cT 7) (cF 7), w ∈ lwG := fun w hw => by
  obtain ⟨k, hk, rfl⟩ := List.mem_map.mp hw
  have hk : k < 23 := List.mem_range.mp hk
  match k, hk with
  | 0, _ => exact lwG_of wd_727 rfl
  | 1, _ => exact lwG_of wd_729 rfl
  | 2, _ => exact lwG_of wd_731 rfl
  | 3, _ => exact lwG_of wd_733 rfl
  | 4, _ => exact lwG_of wd_735 rfl
  | 5, _ => exact lwG_of wd_737 rfl
  | 6, _ => exact lwG_of wd_739 rfl
  | 7, _ => exact lwG_of wd_741 rfl
  | 8, _ => exact lwG_of wd_743 rfl
  | 9, _ => exact lwG_of wd_745 rfl
  | 10, _ => exact lwG_of wd_747 rfl
  | 11, _ => exact lwG_of wd_749 rfl
  | 12, _ => exact lwG_of wd_751 rfl
  | 13, _ => exact lwG_of wd_753 rfl
  | 14, _ => exact lwG_of wd_755 rfl
  | 15, _ => exact lwG_of wd_757 rfl
  | 16, _ => exact lwG_of wd_759 rfl
  | 17, _ => exact lwG_of wd_761 rfl
  | 18, _ => exact lwG_of wd_763 rfl
  | 19, _ => exact lwG_of wd_765 rfl
  | 20, _ => exact lwG_of wd_767 rfl
  | 21, _ => exact lwG_of wd_769 rfl
  | 22, _ => exact lwG_of wd_771 rfl
  | k + 23, hk => exact absurd hk (by omega)
theorem uw_ok : ∀ c, c < 8 → ∀ w ∈ u_ws (cN c) (cT c) (cF c), w ∈ lwG := fun c hc => by
  match c, hc with
  | 0, _ => exact uw_0
  | 1, _ => exact uw_1
  | 2, _ => exact uw_2
  | 3, _ => exact uw_3
  | 4, _ => exact uw_4
  | 5, _ => exact uw_5
  | 6, _ => exact uw_6
  | 7, _ => exact uw_7
  | c + 8, hc => exact absurd hc (by omega)
theorem vw_ok : ∀ c, c < 8 → vwCl[c]? = some (cN c, cT c, cF c) := fun c hc => by
  match c, hc with
  | 0, _ => exact rfl
  | 1, _ => exact rfl
  | 2, _ => exact rfl
  | 3, _ => exact rfl
  | 4, _ => exact rfl
  | 5, _ => exact rfl
  | 6, _ => exact rfl
  | 7, _ => exact rfl
  | c + 8, hc => exact absurd hc (by omega)
theorem ty_ok : ∀ c, c < 8 → ∀ k, k < cF c → parseFieldDescriptor (cT c k).2.2.1 = some (cY c k) := fun c hc => by
  match c, hc with
  | 0, _ => exact tyX0_ok
  | 1, _ => exact tyX1_ok
  | 2, _ => exact tyX2_ok
  | 3, _ => exact tyX3_ok
  | 4, _ => exact tyX4_ok
  | 5, _ => exact tyX5_ok
  | 6, _ => exact tyX6_ok
  | 7, _ => exact tyX7_ok
  | c + 8, hc => exact absurd hc (by omega)
theorem nm_ok : ∀ c, c < 8 → ∀ a, a < cF c → ∀ b, b < cF c → a ≠ b → (cT c a).2.1 ≠ (cT c b).2.1 := fun c hc => by
  match c, hc with
  | 0, _ => exact nmX0
  | 1, _ => exact nmX1
  | 2, _ => exact nmX2
  | 3, _ => exact nmX3
  | 4, _ => exact nmX4
  | 5, _ => exact nmX5
  | 6, _ => exact nmX6
  | 7, _ => exact nmX7
  | c + 8, hc => exact absurd hc (by omega)
theorem in_ok : ∀ c, c < 8 → Cond.instantiable (cN c) (cF c) ∈ lw_tbl := fun c hc => by
  match c, hc with
  | 0, _ => exact wd_206
  | 1, _ => exact wd_71
  | 2, _ => exact wd_189
  | 3, _ => exact wd_241
  | 4, _ => exact wd_225
  | 5, _ => exact wd_77
  | 6, _ => exact wd_63
  | 7, _ => exact wd_699
  | c + 8, hc => exact absurd hc (by omega)
theorem it_ok : ∀ c, c < 8 → Cond.initialized (cN c) ∈ lw_tbl := fun c hc => by
  match c, hc with
  | 0, _ => exact wd_56
  | 1, _ => exact wd_53
  | 2, _ => exact wd_55
  | 3, _ => exact wd_58
  | 4, _ => exact wd_57
  | 5, _ => exact wd_54
  | 6, _ => exact wd_52
  | 7, _ => exact wd_59
  | c + 8, hc => exact absurd hc (by omega)
theorem dv_0 (ad : Nat → Nat) : ∀ k, k < cF 0 → defaultValue (cY 0 k) = fldV ad none 0 (tcv (cY 0 k)) := fun k hk => by
  have hk : k < 3 := hk
  match k, hk with
  | 0, _ => rfl
  | 1, _ => rfl
  | 2, _ => rfl
  | k + 3, hk => exact absurd hk (by omega)
theorem dv_1 (ad : Nat → Nat) : ∀ k, k < cF 1 → defaultValue (cY 1 k) = fldV ad none 0 (tcv (cY 1 k)) := fun k hk => by
  have hk : k < 17 := hk
  match k, hk with
  | 0, _ => rfl
  | 1, _ => rfl
  | 2, _ => rfl
  | 3, _ => rfl
  | 4, _ => rfl
  | 5, _ => rfl
  | 6, _ => rfl
  | 7, _ => rfl
  | 8, _ => rfl
  | 9, _ => rfl
  | 10, _ => rfl
  | 11, _ => rfl
  | 12, _ => rfl
  | 13, _ => rfl
  | 14, _ => rfl
  | 15, _ => rfl
  | 16, _ => rfl
  | k + 17, hk => exact absurd hk (by omega)
theorem dv_2 (ad : Nat → Nat) : ∀ k, k < cF 2 → defaultValue (cY 2 k) = fldV ad none 0 (tcv (cY 2 k)) := fun k hk => by
  have hk : k < 2 := hk
  match k, hk with
  | 0, _ => rfl
  | 1, _ => rfl
  | k + 2, hk => exact absurd hk (by omega)
theorem dv_3 (ad : Nat → Nat) : ∀ k, k < cF 3 → defaultValue (cY 3 k) = fldV ad none 0 (tcv (cY 3 k)) := fun k hk => by
  have hk : k < 8 := hk
  match k, hk with
  | 0, _ => rfl
  | 1, _ => rfl
  | 2, _ => rfl
  | 3, _ => rfl
  | 4, _ => rfl
  | 5, _ => rfl
  | 6, _ => rfl
  | 7, _ => rfl
  | k + 8, hk => exact absurd hk (by omega)
theorem dv_4 (ad : Nat → Nat) : ∀ k, k < cF 4 → defaultValue (cY 4 k) = fldV ad none 0 (tcv (cY 4 k)) := fun k hk => by
  have hk : k < 2 := hk
  match k, hk with
  | 0, _ => rfl
  | 1, _ => rfl
  | k + 2, hk => exact absurd hk (by omega)
theorem dv_5 (ad : Nat → Nat) : ∀ k, k < cF 5 → defaultValue (cY 5 k) = fldV ad none 0 (tcv (cY 5 k)) := fun k hk => by
  have hk : k < 5 := hk
  match k, hk with
  | 0, _ => rfl
  | 1, _ => rfl
  | 2, _ => rfl
  | 3, _ => rfl
  | 4, _ => rfl
  | k + 5, hk => exact absurd hk (by omega)
theorem dv_6 (ad : Nat → Nat) : ∀ k, k < cF 6 → defaultValue (cY 6 k) = fldV ad none 0 (tcv (cY 6 k)) := fun k hk => by
  have hk : k < 6 := hk
  match k, hk with
  | 0, _ => rfl
  | 1, _ => rfl
  | 2, _ => rfl
  | 3, _ => rfl
  | 4, _ => rfl
  | 5, _ => rfl
  | k + 6, hk => exact absurd hk (by omega)
theorem dv_7 (ad : Nat → Nat) : ∀ k, k < cF 7 → defaultValue (cY 7 k) = fldV ad none 0 (tcv (cY 7 k)) := fun k hk => by
  have hk : k < 23 := hk
  match k, hk with
  | 0, _ => rfl
  | 1, _ => rfl
  | 2, _ => rfl
  | 3, _ => rfl
  | 4, _ => rfl
  | 5, _ => rfl
  | 6, _ => rfl
  | 7, _ => rfl
  | 8, _ => rfl
  | 9, _ => rfl
  | 10, _ => rfl
  | 11, _ => rfl
  | 12, _ => rfl
  | 13, _ => rfl
  | 14, _ => rfl
  | 15, _ => rfl
  | 16, _ => rfl
  | 17, _ => rfl
  | 18, _ => rfl
  | 19, _ => rfl
  | 20, _ => rfl
  | 21, _ => rfl
  | 22, _ => rfl
  | k + 23, hk => exact absurd hk (by omega)
theorem dv_ok : ∀ c, c < 8 → ∀ ad : Nat → Nat, ∀ k, k < cF c → defaultValue (cY c k) = fldV ad none 0 (tcv (cY c k)) := fun c hc => by
  match c, hc with
  | 0, _ => exact dv_0
  | 1, _ => exact dv_1
  | 2, _ => exact dv_2
  | 3, _ => exact dv_3
  | 4, _ => exact dv_4
  | 5, _ => exact dv_5
  | 6, _ => exact dv_6
  | 7, _ => exact dv_7
  | c + 8, hc => exact absurd hc (by omega)
theorem rf_0 : ∀ k, k < cF 0 → tcv (cY 0 k) = .null → (cY 0 k).isReference = true := fun k hk => by
  have hk : k < 3 := hk
  match k, hk with
  | 0, _ => exact fun _ => rfl
  | 1, _ => exact fun _ => rfl
  | 2, _ => exact fun _ => rfl
  | k + 3, hk => exact absurd hk (by omega)
theorem rf_1 : ∀ k, k < cF 1 → tcv (cY 1 k) = .null → (cY 1 k).isReference = true := fun k hk => by
  have hk : k < 17 := hk
  match k, hk with
  | 0, _ => exact fun h => Value.noConfusion h
  | 1, _ => exact fun _ => rfl
  | 2, _ => exact fun _ => rfl
  | 3, _ => exact fun h => Value.noConfusion h
  | 4, _ => exact fun _ => rfl
  | 5, _ => exact fun _ => rfl
  | 6, _ => exact fun _ => rfl
  | 7, _ => exact fun _ => rfl
  | 8, _ => exact fun _ => rfl
  | 9, _ => exact fun _ => rfl
  | 10, _ => exact fun h => Value.noConfusion h
  | 11, _ => exact fun h => Value.noConfusion h
  | 12, _ => exact fun _ => rfl
  | 13, _ => exact fun h => Value.noConfusion h
  | 14, _ => exact fun _ => rfl
  | 15, _ => exact fun _ => rfl
  | 16, _ => exact fun h => Value.noConfusion h
  | k + 17, hk => exact absurd hk (by omega)
theorem rf_2 : ∀ k, k < cF 2 → tcv (cY 2 k) = .null → (cY 2 k).isReference = true := fun k hk => by
  have hk : k < 2 := hk
  match k, hk with
  | 0, _ => exact fun _ => rfl
  | 1, _ => exact fun h => Value.noConfusion h
  | k + 2, hk => exact absurd hk (by omega)
theorem rf_3 : ∀ k, k < cF 3 → tcv (cY 3 k) = .null → (cY 3 k).isReference = true := fun k hk => by
  have hk : k < 8 := hk
  match k, hk with
  | 0, _ => exact fun _ => rfl
  | 1, _ => exact fun h => Value.noConfusion h
  | 2, _ => exact fun h => Value.noConfusion h
  | 3, _ => exact fun _ => rfl
  | 4, _ => exact fun h => Value.noConfusion h
  | 5, _ => exact fun h => Value.noConfusion h
  | 6, _ => exact fun h => Value.noConfusion h
  | 7, _ => exact fun h => Value.noConfusion h
  | k + 8, hk => exact absurd hk (by omega)
theorem rf_4 : ∀ k, k < cF 4 → tcv (cY 4 k) = .null → (cY 4 k).isReference = true := fun k hk => by
  have hk : k < 2 := hk
  match k, hk with
  | 0, _ => exact fun _ => rfl
  | 1, _ => exact fun _ => rfl
  | k + 2, hk => exact absurd hk (by omega)
theorem rf_5 : ∀ k, k < cF 5 → tcv (cY 5 k) = .null → (cY 5 k).isReference = true := fun k hk => by
  have hk : k < 5 := hk
  match k, hk with
  | 0, _ => exact fun _ => rfl
  | 1, _ => exact fun h => Value.noConfusion h
  | 2, _ => exact fun h => Value.noConfusion h
  | 3, _ => exact fun h => Value.noConfusion h
  | 4, _ => exact fun h => Value.noConfusion h
  | k + 5, hk => exact absurd hk (by omega)
theorem rf_6 : ∀ k, k < cF 6 → tcv (cY 6 k) = .null → (cY 6 k).isReference = true := fun k hk => by
  have hk : k < 6 := hk
  match k, hk with
  | 0, _ => exact fun _ => rfl
  | 1, _ => exact fun _ => rfl
  | 2, _ => exact fun _ => rfl
  | 3, _ => exact fun _ => rfl
  | 4, _ => exact fun _ => rfl
  | 5, _ => exact fun _ => rfl
  | k + 6, hk => exact absurd hk (by omega)
theorem rf_7 : ∀ k, k < cF 7 → tcv (cY 7 k) = .null → (cY 7 k).isReference = true := fun k hk => by
  have hk : k < 23 := hk
  match k, hk with
  | 0, _ => exact fun _ => rfl
  | 1, _ => exact fun _ => rfl
  | 2, _ => exact fun _ => rfl
  | 3, _ => exact fun _ => rfl
  | 4, _ => exact fun h => Value.noConfusion h
  | 5, _ => exact fun _ => rfl
  | 6, _ => exact fun h => Value.noConfusion h
  | 7, _ => exact fun _ => rfl
  | 8, _ => exact fun h => Value.noConfusion h
  | 9, _ => exact fun h => Value.noConfusion h
  | 10, _ => exact fun h => Value.noConfusion h
  | 11, _ => exact fun h => Value.noConfusion h
  | 12, _ => exact fun h => Value.noConfusion h
  | 13, _ => exact fun h => Value.noConfusion h
  | 14, _ => exact fun _ => rfl
  | 15, _ => exact fun _ => rfl
  | 16, _ => exact fun _ => rfl
  | 17, _ => exact fun h => Value.noConfusion h
  | 18, _ => exact fun h => Value.noConfusion h
  | 19, _ => exact fun h => Value.noConfusion h
  | 20, _ => exact fun h => Value.noConfusion h
  | 21, _ => exact fun h => Value.noConfusion h
  | 22, _ => exact fun _ => rfl
  | k + 23, hk => exact absurd hk (by omega)
theorem rf_ok : ∀ c, c < 8 → ∀ k, k < cF c → tcv (cY c k) = .null → (cY c k).isReference = true := fun c hc => by
  match c, hc with
  | 0, _ => exact rf_0
  | 1, _ => exact rf_1
  | 2, _ => exact rf_2
  | 3, _ => exact rf_3
  | 4, _ => exact rf_4
  | 5, _ => exact rf_5
  | 6, _ => exact rf_6
  | 7, _ => exact rf_7
  | c + 8, hc => exact absurd hc (by omega)
theorem wk_mc : Cond.code Lib.Math.max.name Lib.Math.max.code 2 (some .int) ∈ lw_tbl := wd_487
theorem wk_nc : Cond.code Lib.Math.min.name Lib.Math.min.code 2 (some .int) ∈ lw_tbl := wd_490
theorem wk_ms : Cond.static Lib.Math.max.name ∈ lw_tbl := wd_486
theorem wk_ns : Cond.static Lib.Math.min.name ∈ lw_tbl := wd_489
theorem wk_mi : Cond.initialized "java/lang/Math" ∈ lw_tbl := wd_60
theorem wk_fi : Cond.initialized "java/lang/Float" ∈ lw_tbl := wd_61
theorem wk_fn : Cond.native ⟨"java/lang/Float", "floatToRawIntBits", "(F)I"⟩ ∈ lw_tbl := wd_964
theorem wk_fs : Cond.static ⟨"java/lang/Float", "floatToRawIntBits", "(F)I"⟩ ∈ lw_tbl := wd_963
theorem wk_oi : Cond.instanceMethod Lib.objectInit ∈ lw_tbl := wd_68
theorem wk_oc : Cond.code Lib.objectInit ⟨#[0xb1]⟩ 1 none ∈ lw_tbl := wd_69
theorem wk_ai : Cond.arrayClass .int ∈ lw_tbl := wd_104
theorem wk_ac : Cond.arrayClass .char ∈ lw_tbl := wd_275
