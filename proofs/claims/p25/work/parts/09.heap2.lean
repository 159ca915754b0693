set_option maxHeartbeats 4000000 in
theorem fs_getstatic {f : Nat} (ih : FS f) (idx : Nat) : FSat f (.getstatic idx) := by
  intro m pc npc a b d w cv sw ls st σ M r σ1 M1 he hex G p l e R s mid args below meth c Q hC ad H locs cells slots lsr hY hcl hsl hE
  obtain ⟨hx, hb, hml, hown, hts, hKU, hini, hfr, hlo, hz⟩ := id hC
  obtain ⟨⟨hP, hD⟩, hZ, hS, hwf, hos, hol, hl, hlen⟩ := id hY
  have hg := fe_good he
  have hk := fe_link he
  have hd := dec_of_good hg
  rw [exec, he] at hex
  dsimp only at hex
  simp only [good, Bool.and_eq_true, decide_eq_true_eq] at hg
  have nx : ∀ (pc1 : Nat) (st1 : List Value), exec f m pc1 ls st1 σ M = some (r, σ1, M1) → okS σ st1 → W p l e R s mid args below meth c H locs cells slots Q (F0 mid pc1 lsr (st1.map (amap ad))) := fun pc1 st1 h1 h2 => ih m pc1 ls st1 σ M r σ1 M1 h1 G p l e R s mid args below meth c Q hC ad H locs cells slots lsr ⟨⟨hP, hD⟩, hZ, hS, hwf, h2, hol, hl, hlen⟩ hcl hsl hE
  cases hs : stA (.getstatic idx) npc a b d cv sw ls st σ M with
  | none => rw [hs] at hex; cases hex
  | some res =>
  rw [hs] at hex
  obtain ⟨-, rfl, h1, h2⟩ := hg
  rw [Nat.add_sub_cancel_left] at hd
  obtain rfl := go_inl hs
  have hok : okA σ a := by
    rcases (show a = 1000 ∨ a = 1001 ∨ a = 1002 by omega) with rfl | rfl | rfl
    · exact Or.inr hZ.2.1.1
    · exact Or.inr hZ.2.2.1.1
    · exact Or.inr hZ.2.2.2.1
  have key := nx (pc + 3) _ hex (okS_c (okV_r hok) hos)
  have hz1 : va_Z "AntTrails" (stN a) "[I" (.ref (ad a)) (AA G) s s.heap := by
    rcases (show a = 1000 ∨ a = 1001 ∨ a = 1002 by omega) with rfl | rfl | rfl
    · exact hZ.2.1.2
    · exact hZ.2.2.1.2
    · exact hZ.2.2.2.2
  simp only [LkP] at hk
  split at hk
  · exact va_gets hx hb hz1 hS hown (hts _ (lwG_of hk rfl)) (fun _ h9 => h9) hd key
  · exact va_getsN hx hb hz1 hS hown (va_Nw.use rfl (hKU.2.1 _ _ _ _ _ _ hk)) (fun _ h9 => h9) hd key
set_option maxHeartbeats 4000000 in
theorem fs_arraylength {f : Nat} (ih : FS f) : FSat f (.arraylength) := by
  intro m pc npc a b d w cv sw ls st σ M r σ1 M1 he hex G p l e R s mid args below meth c Q hC ad H locs cells slots lsr hY hcl hsl hE
  obtain ⟨hx, hb, hml, hown, hts, hKU, hini, hfr, hlo, hz⟩ := id hC
  obtain ⟨⟨hP, hD⟩, hZ, hS, hwf, hos, hol, hl, hlen⟩ := id hY
  have hg := fe_good he
  have hk := fe_link he
  have hd := dec_of_good hg
  rw [exec, he] at hex
  dsimp only at hex
  simp only [good, Bool.and_eq_true, decide_eq_true_eq] at hg
  have nx : ∀ (pc1 : Nat) (st1 : List Value), exec f m pc1 ls st1 σ M = some (r, σ1, M1) → okS σ st1 → W p l e R s mid args below meth c H locs cells slots Q (F0 mid pc1 lsr (st1.map (amap ad))) := fun pc1 st1 h1 h2 => ih m pc1 ls st1 σ M r σ1 M1 h1 G p l e R s mid args below meth c Q hC ad H locs cells slots lsr ⟨⟨hP, hD⟩, hZ, hS, hwf, h2, hol, hl, hlen⟩ hcl hsl hE
  cases hs : stA (.arraylength) npc a b d cv sw ls st σ M with
  | none => rw [hs] at hex; cases hex
  | some res =>
  rw [hs] at hex
  obtain ⟨-, rfl⟩ := hg
  rw [Nat.add_sub_cancel_left] at hd
  obtain ⟨o, r1, e1, hs1⟩ := pR_some hs
  subst e1
  obtain ⟨ht, hs2⟩ := gd_some hs1
  obtain rfl := go_inl hs2
  have key := nx (pc + 1) _ hex (okS_c okV_i (okS_t hos))
  by_cases h9 : sT σ o = 9
  · exact va_tlen hx hb (hZ.1 o h9) hS rfl hd key
  · have ho : o < sN σ := okA_obj (okS_h hos o rfl) h9
    have hcw := cw_get (G := G) (ad := ad) (M := M) ho
    have h3 : sT σ o = 0 ∨ sT σ o = 1 ∨ sT σ o = 2 := by
      simp only [isAr, Bool.or_eq_true, beq_iff_eq] at ht
      omega
    rcases h3 with h | h | h
    · rw [ent_0 h] at hcw
      exact va_alen hx hb hKU.1 hP o 0 hcw (ty := .int) rfl rfl hd key
    · rw [ent_1 h] at hcw
      exact va_alen hx hb hKU.1 hP o 1 hcw (ty := .char) rfl rfl hd key
    · rw [ent_2 h] at hcw
      exact va_alen hx hb hKU.1 hP o 2 hcw (ty := .object "AntTrails$Ground") rfl rfl hd key
set_option maxHeartbeats 4000000 in
theorem fs_iaload {f : Nat} (ih : FS f) : FSat f (.iaload) := by
  intro m pc npc a b d w cv sw ls st σ M r σ1 M1 he hex G p l e R s mid args below meth c Q hC ad H locs cells slots lsr hY hcl hsl hE
  obtain ⟨hx, hb, hml, hown, hts, hKU, hini, hfr, hlo, hz⟩ := id hC
  obtain ⟨⟨hP, hD⟩, hZ, hS, hwf, hos, hol, hl, hlen⟩ := id hY
  have hg := fe_good he
  have hk := fe_link he
  have hd := dec_of_good hg
  rw [exec, he] at hex
  dsimp only at hex
  simp only [good, Bool.and_eq_true, decide_eq_true_eq] at hg
  have nx : ∀ (pc1 : Nat) (st1 : List Value), exec f m pc1 ls st1 σ M = some (r, σ1, M1) → okS σ st1 → W p l e R s mid args below meth c H locs cells slots Q (F0 mid pc1 lsr (st1.map (amap ad))) := fun pc1 st1 h1 h2 => ih m pc1 ls st1 σ M r σ1 M1 h1 G p l e R s mid args below meth c Q hC ad H locs cells slots lsr ⟨⟨hP, hD⟩, hZ, hS, hwf, h2, hol, hl, hlen⟩ hcl hsl hE
  cases hs : stA (.iaload) npc a b d cv sw ls st σ M with
  | none => rw [hs] at hex; cases hex
  | some res =>
  rw [hs] at hex
  obtain ⟨-, rfl⟩ := hg
  rw [Nat.add_sub_cancel_left] at hd
  obtain ⟨i, r1, e1, hs1⟩ := pI_some hs
  obtain ⟨o, r2, e2, hs2⟩ := pR_some hs1
  subst e2
  subst e1
  obtain ⟨ht, hs3⟩ := gd_some hs2
  obtain ⟨hin, hs4⟩ := ixI_some hs3
  obtain rfl := go_inl hs4
  have key := nx (pc + 1) _ hex (okS_c okV_i (okS_t (okS_t hos)))
  by_cases h9 : sT σ o = 9
  · exact va_ti hx hb (hZ.1 o h9) hS hin rfl hd key
  · have ho : o < sN σ := okA_obj (okS_h (okS_t hos) o rfl) h9
    have hcw := cw_get (G := G) (ad := ad) (M := M) ho
    have h : sT σ o = 0 := by
      simp only [isI, Bool.or_eq_true, beq_iff_eq] at ht
      omega
    rw [ent_0 h] at hcw
    exact va_iald hx hb hKU.1 hP o 0 hcw rfl hin hd key
set_option maxHeartbeats 4000000 in
theorem fs_caload {f : Nat} (ih : FS f) : FSat f (.caload) := by
  intro m pc npc a b d w cv sw ls st σ M r σ1 M1 he hex G p l e R s mid args below meth c Q hC ad H locs cells slots lsr hY hcl hsl hE
  obtain ⟨hx, hb, hml, hown, hts, hKU, hini, hfr, hlo, hz⟩ := id hC
  obtain ⟨⟨hP, hD⟩, hZ, hS, hwf, hos, hol, hl, hlen⟩ := id hY
  have hg := fe_good he
  have hk := fe_link he
  have hd := dec_of_good hg
  rw [exec, he] at hex
  dsimp only at hex
  simp only [good, Bool.and_eq_true, decide_eq_true_eq] at hg
  have nx : ∀ (pc1 : Nat) (st1 : List Value), exec f m pc1 ls st1 σ M = some (r, σ1, M1) → okS σ st1 → W p l e R s mid args below meth c H locs cells slots Q (F0 mid pc1 lsr (st1.map (amap ad))) := fun pc1 st1 h1 h2 => ih m pc1 ls st1 σ M r σ1 M1 h1 G p l e R s mid args below meth c Q hC ad H locs cells slots lsr ⟨⟨hP, hD⟩, hZ, hS, hwf, h2, hol, hl, hlen⟩ hcl hsl hE
  cases hs : stA (.caload) npc a b d cv sw ls st σ M with
  | none => rw [hs] at hex; cases hex
  | some res =>
  rw [hs] at hex
  obtain ⟨-, rfl⟩ := hg
  rw [Nat.add_sub_cancel_left] at hd
  obtain ⟨i, r1, e1, hs1⟩ := pI_some hs
  obtain ⟨o, r2, e2, hs2⟩ := pR_some hs1
  subst e2
  subst e1
  obtain ⟨ht, hs3⟩ := gd_some hs2
  obtain ⟨hin, hs4⟩ := ixI_some hs3
  obtain rfl := go_inl hs4
  have key := nx (pc + 1) _ hex (okS_c okV_i (okS_t (okS_t hos)))
  have ho : o < sN σ := okA_obj (okS_h (okS_t hos) o rfl) (by omega)
  have hcw := cw_get (G := G) (ad := ad) (M := M) ho
  rw [ent_1 ht] at hcw
  exact va_cald hx hb hKU.1 hP o 1 hcw rfl hin hd key
set_option maxHeartbeats 4000000 in
theorem fs_aaload {f : Nat} (ih : FS f) : FSat f (.aaload) := by
  intro m pc npc a b d w cv sw ls st σ M r σ1 M1 he hex G p l e R s mid args below meth c Q hC ad H locs cells slots lsr hY hcl hsl hE
  obtain ⟨hx, hb, hml, hown, hts, hKU, hini, hfr, hlo, hz⟩ := id hC
  obtain ⟨⟨hP, hD⟩, hZ, hS, hwf, hos, hol, hl, hlen⟩ := id hY
  have hg := fe_good he
  have hk := fe_link he
  have hd := dec_of_good hg
  rw [exec, he] at hex
  dsimp only at hex
  simp only [good, Bool.and_eq_true, decide_eq_true_eq] at hg
  have nx : ∀ (pc1 : Nat) (st1 : List Value), exec f m pc1 ls st1 σ M = some (r, σ1, M1) → okS σ st1 → W p l e R s mid args below meth c H locs cells slots Q (F0 mid pc1 lsr (st1.map (amap ad))) := fun pc1 st1 h1 h2 => ih m pc1 ls st1 σ M r σ1 M1 h1 G p l e R s mid args below meth c Q hC ad H locs cells slots lsr ⟨⟨hP, hD⟩, hZ, hS, hwf, h2, hol, hl, hlen⟩ hcl hsl hE
  cases hs : stA (.aaload) npc a b d cv sw ls st σ M with
  | none => rw [hs] at hex; cases hex
  | some res =>
  rw [hs] at hex
  obtain ⟨-, rfl⟩ := hg
  rw [Nat.add_sub_cancel_left] at hd
  obtain ⟨i, r1, e1, hs1⟩ := pI_some hs
  obtain ⟨o, r2, e2, hs2⟩ := pR_some hs1
  subst e2
  subst e1
  obtain ⟨ht, hs3⟩ := gd_some hs2
  obtain ⟨hin, hs4⟩ := ixI_some hs3
  obtain rfl := go_inl hs4
  have key := nx (pc + 1) _ hex (okS_c (fun j hj => Or.inl (hwf.1 o i.toNatClampNeg j (by
    cases hq : sR σ o i.toNatClampNeg with
    | none => rw [hq] at hj; cases hj
    | some z => rw [hq] at hj; cases hj; rfl))) (okS_t (okS_t hos)))
  rw [List.map_cons, rf_map] at key
  have ho : o < sN σ := okA_obj (okS_h (okS_t hos) o rfl) (by omega)
  have hcw := cw_get (G := G) (ad := ad) (M := M) ho
  rw [ent_2 ht] at hcw
  exact va_aldq (C := "AntTrails$Ground") hx hb hKU.1 hP o 2 hcw rfl hin hd key
set_option maxHeartbeats 4000000 in
theorem fs_iastore {f : Nat} (ih : FS f) : FSat f (.iastore) := by
  intro m pc npc a b d w cv sw ls st σ M r σ1 M1 he hex G p l e R s mid args below meth c Q hC ad H locs cells slots lsr hY hcl hsl hE
  obtain ⟨hx, hb, hml, hown, hts, hKU, hini, hfr, hlo, hz⟩ := id hC
  obtain ⟨⟨hP, hD⟩, hZ, hS, hwf, hos, hol, hl, hlen⟩ := id hY
  have hg := fe_good he
  have hk := fe_link he
  have hd := dec_of_good hg
  rw [exec, he] at hex
  dsimp only at hex
  simp only [good, Bool.and_eq_true, decide_eq_true_eq] at hg
  cases hs : stA (.iastore) npc a b d cv sw ls st σ M with
  | none => rw [hs] at hex; cases hex
  | some res =>
  rw [hs] at hex
  obtain ⟨-, rfl⟩ := hg
  rw [Nat.add_sub_cancel_left] at hd
  obtain ⟨x, r1, e1, hs1⟩ := pI_some hs
  obtain ⟨i, r2, e2, hs2⟩ := pI_some hs1
  obtain ⟨o, r3, e3, hs3⟩ := pR_some hs2
  subst e3
  subst e2
  subst e1
  obtain ⟨ht, hs4⟩ := gd_some hs3
  obtain ⟨hin, hs5⟩ := ixI_some hs4
  obtain rfl := go_inl hs5
  have ho : o < sN σ := okA_obj (okS_h (okS_t (okS_t hos)) o rfl) (by omega)
  have hcw := cw_get (G := G) (ad := ad) (M := M) ho
  rw [ent_0 ht] at hcw
  have hnew : cw G ad σ (upM M o (upI (M o) i.toNatClampNeg x)) = (cw G ad σ M).set o (ad o, .inl (G.2.1, sL σ o, .inl (upd (M o) i.toNatClampNeg x))) := by
    refine cw_M ?_
    rw [ent_0 ht, upM_s]
    rfl
  refine va_iast hx hb hKU.1 hP hD hS o 0 hcw rfl hin hd (fun H1 locs1 q1 q2 q3 => ?_)
  rw [← hnew] at q1 q2
  exact ih m (pc + 1) ls r3 σ (upM M o (upI (M o) i.toNatClampNeg x)) r σ1 M1 hex G p l e R s mid args below meth c Q hC ad H1 locs1 cells slots lsr ⟨⟨q1, q2⟩, hZ.kM (o := o) (by omega) rfl rfl (fun i hi => upM_n hi), q3, hwf, okS_t (okS_t (okS_t hos)), hol, hl, hlen⟩ hcl hsl hE
set_option maxHeartbeats 4000000 in
theorem fs_castore {f : Nat} (ih : FS f) : FSat f (.castore) := by
  intro m pc npc a b d w cv sw ls st σ M r σ1 M1 he hex G p l e R s mid args below meth c Q hC ad H locs cells slots lsr hY hcl hsl hE
  obtain ⟨hx, hb, hml, hown, hts, hKU, hini, hfr, hlo, hz⟩ := id hC
  obtain ⟨⟨hP, hD⟩, hZ, hS, hwf, hos, hol, hl, hlen⟩ := id hY
  have hg := fe_good he
  have hk := fe_link he
  have hd := dec_of_good hg
  rw [exec, he] at hex
  dsimp only at hex
  simp only [good, Bool.and_eq_true, decide_eq_true_eq] at hg
  cases hs : stA (.castore) npc a b d cv sw ls st σ M with
  | none => rw [hs] at hex; cases hex
  | some res =>
  rw [hs] at hex
  obtain ⟨-, rfl⟩ := hg
  rw [Nat.add_sub_cancel_left] at hd
  obtain ⟨x, r1, e1, hs1⟩ := pI_some hs
  obtain ⟨i, r2, e2, hs2⟩ := pI_some hs1
  obtain ⟨o, r3, e3, hs3⟩ := pR_some hs2
  subst e3
  subst e2
  subst e1
  obtain ⟨ht, hs4⟩ := gd_some hs3
  obtain ⟨hin, hs5⟩ := ixI_some hs4
  obtain rfl := go_inl hs5
  have ho : o < sN σ := okA_obj (okS_h (okS_t (okS_t hos)) o rfl) (by omega)
  have hcw := cw_get (G := G) (ad := ad) (M := M) ho
  rw [ent_1 ht] at hcw
  have hnew : cw G ad σ (upM M o (upI (M o) i.toNatClampNeg (vp_nar .char x))) = (cw G ad σ M).set o (ad o, .inl (G.2.2.1, sL σ o, .inl (upd (M o) i.toNatClampNeg (vp_nar .char x)))) := by
    refine cw_M ?_
    rw [ent_1 ht, upM_s]
    rfl
  refine va_cast hx hb hKU.1 hP hD hS o 1 hcw rfl hin hd (fun H1 locs1 q1 q2 q3 => ?_)
  rw [← hnew] at q1 q2
  exact ih m (pc + 1) ls r3 σ (upM M o (upI (M o) i.toNatClampNeg (vp_nar .char x))) r σ1 M1 hex G p l e R s mid args below meth c Q hC ad H1 locs1 cells slots lsr ⟨⟨q1, q2⟩, hZ.kM (o := o) (by omega) rfl rfl (fun i hi => upM_n hi), q3, hwf, okS_t (okS_t (okS_t hos)), hol, hl, hlen⟩ hcl hsl hE
set_option maxHeartbeats 4000000 in
theorem fs_aastore {f : Nat} (ih : FS f) : FSat f (.aastore) := by
  intro m pc npc a b d w cv sw ls st σ M r σ1 M1 he hex G p l e R s mid args below meth c Q hC ad H locs cells slots lsr hY hcl hsl hE
  obtain ⟨hx, hb, hml, hown, hts, hKU, hini, hfr, hlo, hz⟩ := id hC
  obtain ⟨⟨hP, hD⟩, hZ, hS, hwf, hos, hol, hl, hlen⟩ := id hY
  have hg := fe_good he
  have hk := fe_link he
  have hd := dec_of_good hg
  rw [exec, he] at hex
  dsimp only at hex
  simp only [good, Bool.and_eq_true, decide_eq_true_eq] at hg
  cases hs : stA (.aastore) npc a b d cv sw ls st σ M with
  | none => rw [hs] at hex; cases hex
  | some res =>
  rw [hs] at hex
  obtain ⟨-, rfl⟩ := hg
  rw [Nat.add_sub_cancel_left] at hd
  obtain ⟨v, r1, e1, hs1⟩ := pR_some hs
  obtain ⟨i, r2, e2, hs2⟩ := pI_some hs1
  obtain ⟨o, r3, e3, hs3⟩ := pR_some hs2
  subst e3
  subst e2
  subst e1
  obtain ⟨⟨ht, hv11⟩, hs4⟩ := gd_some hs3
  obtain ⟨hin, hs5⟩ := ixI_some hs4
  obtain rfl := go_inl hs5
  have ho : o < sN σ := okA_obj (okS_h (okS_t (okS_t hos)) o rfl) (by omega)
  have hv : v < sN σ := okA_obj (okS_h hos v rfl) (by omega)
  have hcw := cw_get (G := G) (ad := ad) (M := M) ho
  rw [ent_2 ht] at hcw
  have hcv := cw_get (G := G) (ad := ad) (M := M) hv
  rw [ent_obj hv11 (by omega)] at hcv
  have hnew : cw G ad (setR σ o (upM (sR σ o) i.toNatClampNeg (some v))) M = (cw G ad σ M).set o (ad o, .inl (G.2.2.2.1, sL σ o, .inr (.inr (.inr (.inr (va_up (fun j => (sR σ o j).map ad) i.toNatClampNeg (some (ad v)))))))) := by
    refine cw_R ?_
    rw [ent_2 (by rw [sT_set]; exact ht), sL_set, sR_set, upM_s]
    refine congrArg (fun g => (Sum.inl (G.2.2.2.1, sL σ o, Sum.inr (Sum.inr (Sum.inr (Sum.inr g)))) : va_E)) (funext fun j => ?_)
    unfold upM va_up
    dsimp only
    split <;> rfl
  refine va_astq (r := (RX1, TX1, 17)) hx hb hKU.1 hP hD hS o 2 v 1 hcw rfl hcv rfl hin hd (fun H1 locs1 q1 q2 q3 => ?_)
  rw [← hnew] at q1 q2
  exact ih m (pc + 1) ls r3 (setR σ o (upM (sR σ o) i.toNatClampNeg (some v))) M r σ1 M1 hex G p l e R s mid args below meth c Q hC ad H1 locs1 cells slots lsr ⟨⟨q1, q2⟩, hZ.kM (o := o) (by omega) rfl rfl (fun i hi => rfl), q3, wf_M hwf hv, okS_t (okS_t (okS_t hos)), hol, hl, hlen⟩ hcl hsl hE
theorem sN_al {σ : Sg} {t l k : Nat} : sN (alloc σ t l k) = sN σ + 1 := rfl
theorem sT_al {σ : Sg} {t l k : Nat} : sT (alloc σ t l k) = upM (sT σ) (sN σ) t := rfl
theorem sL_al {σ : Sg} {t l k : Nat} : sL (alloc σ t l k) = upM (sL σ) (sN σ) l := rfl
theorem sR_al {σ : Sg} {t l k : Nat} : sR (alloc σ t l k) = upM (sR σ) (sN σ) (fun _ => none) := rfl
theorem sS_al {σ : Sg} {t l k : Nat} : sS (alloc σ t l k) = sS σ + k := rfl
/-- what a new cell changes of the picture -/
theorem al_facts {G : PG} {ad : Nat → Nat} {σ : Sg} {M : Mem} {t l k q : Nat} {E : va_E} {s : State} (hwf : wfS σ) (ht : t ≠ 9) (h9 : ¬ sT σ (sN σ) = 9) (hZ : ZU G ad σ M s s.heap) (hE : ent G (va_up ad (sN σ) q) (alloc σ t l k) (upM M (sN σ) (fun _ => 0)) (sN σ) = E) :
    cw G (va_up ad (sN σ) q) (alloc σ t l k) (upM M (sN σ) (fun _ => 0)) = cw G ad σ M ++ [(q, E)] ∧ ZU G (va_up ad (sN σ) q) (alloc σ t l k) (upM M (sN σ) (fun _ => 0)) s s.heap ∧ wfS (alloc σ t l k) ∧ AG σ ad (va_up ad (sN σ) q) ∧ (∀ i, sT σ i = 9 → sT (alloc σ t l k) i = 9) := by
  have hne : ∀ i, sT σ i = 9 → i ≠ sN σ := fun i hi e => h9 (by rw [← e]; exact hi)
  refine ⟨cw_push rfl (va_up_self _ _ _) hE (fun i hi => ⟨va_up_ne _ _ (by omega), ent_same (upM_n (by omega)) (upM_n (by omega)) (upM_n (by omega)) (fun j => ?_)⟩), hZ.to (fun i => ?_) (fun i hi => ⟨va_up_ne _ _ (hne i hi), upM_n (hne i hi), upM_n (hne i hi)⟩), ⟨fun i j z hz => ?_, fun i hi => ?_⟩, fun j hj => va_up_ne _ _ ?_, fun i hi => ?_⟩
  · rw [sR_al, upM_n (by omega)]
    cases hq : sR σ i j with
    | none => rfl
    | some z =>
      have := hwf.1 i j z hq
      simp only [Option.map_some, Option.some.injEq]
      exact va_up_ne _ _ (by omega)
  · rw [sT_al]
    by_cases e : i = sN σ
    · subst e
      rw [upM_s]
      exact ⟨fun q => absurd q ht, fun q => absurd q h9⟩
    · rw [upM_n e]
  · rw [sR_al] at hz
    by_cases e : i = sN σ
    · subst e
      rw [upM_s] at hz
      cases hz
    · rw [upM_n e] at hz
      have := hwf.1 i j z hz
      rw [sN_al]
      omega
  · rw [sN_al] at hi
    rw [sT_al]
    by_cases e : i = sN σ
    · subst e
      rw [upM_s]
      exact ht
    · rw [upM_n e]
      exact hwf.2 i (by omega)
  · rcases hj with h | h
    · omega
    · exact hne j h
  · rw [sT_al, upM_n (hne i hi)]
    exact hi
set_option maxHeartbeats 4000000 in
theorem fs_new {f : Nat} (ih : FS f) (idx : Nat) : FSat f (.new idx) := by
  intro m pc npc a b d w cv sw ls st σ M r σ1 M1 he hex G p l e R s mid args below meth c Q hC ad H locs cells slots lsr hY hcl hsl hE
  obtain ⟨hx, hb, hml, hown, hts, hKU, hini, hfr, hlo, hz⟩ := id hC
  obtain ⟨⟨hP, hD⟩, hZ, hS, hwf, hos, hol, hl, hlen⟩ := id hY
  have hg := fe_good he
  have hk := fe_link he
  have hd := dec_of_good hg
  rw [exec, he] at hex
  dsimp only at hex
  simp only [good, Bool.and_eq_true, decide_eq_true_eq] at hg
  cases hs : stA (.new idx) npc a b d cv sw ls st σ M with
  | none => rw [hs] at hex; cases hex
  | some res =>
  rw [hs] at hex
  obtain ⟨-, rfl, h10, h8, hbN⟩ := hg
  rw [Nat.add_sub_cancel_left] at hd
  obtain ⟨h9, hs1⟩ := gd_some hs
  obtain rfl := go_inl hs1
  have hex2 : exec f m (pc + 3) ls (.ref (sN σ) :: st) (alloc σ a 0 b) (upM M (sN σ) (fun _ => 0)) = some (r, σ1, M1) := hex
  have hgr := exec_grow hex2
  rw [sN_al, sS_al] at hgr
  simp only [LkP] at hk
  refine va_new (D := G.1) (ci := a - 10) (C := cN (a - 10)) (T := cT (a - 10)) (N := cF (a - 10)) (fs := (List.range (cF (a - 10))).map (fun k => fldV ad none 0 (tcv (cY (a - 10) k)))) hx hb hts (uw_ok _ h8) (cY (a - 10)) (ty_ok _ h8) hown (hts _ (lwG_of hk rfl)) (hts _ (lwG_of (in_ok _ h8) rfl)) (hts _ (lwG_of (it_ok _ h8) rfl)) hKU.1 hP hD hS (fun q hq => Nat.le_trans hz hq) (vw_ok _ h8) (fun j hj => by rw [va_f_get hj]; exact dv_ok _ h8 ad j hj) (by omega) (by rw [← hbN]; omega) hd (fun q H1 q1 q2 q3 => ?_)
  obtain ⟨z1, z2, z3, z4, z5⟩ := al_facts (q := q) (l := 0) (k := b) hwf (show a ≠ 9 by omega) h9 hZ (E := .inr (a - 10, (List.range (cF (a - 10))).map (fun k => fldV ad none 0 (tcv (cY (a - 10) k))))) (by
    rw [ent_obj (t := a) (by rw [sT_al, upM_s]) h10]
    refine congrArg (fun z => (Sum.inr (a - 10, z) : va_E)) (List.map_congr_left fun k _ => ?_)
    rw [sR_al, upM_s, upM_s]
    cases tcv (cY (a - 10) k) <;> rfl)
  rw [← z1] at q1 q2
  have key := ih m (pc + 3) ls (.ref (sN σ) :: st) _ _ r σ1 M1 hex2 G p l e R s mid args below meth c Q hC (va_up ad (sN σ) q) H1 locs (cells + 1) (slots + b) lsr ⟨⟨q1, q2⟩, z2, q3, z3, okS_c (okV_r (Or.inl (by rw [sN_al]; omega))) (okS_to (by rw [sN_al]; omega) z5 hos), okL_to (by rw [sN_al]; omega) z5 hol, asc_ag z4 hol hl, hlen⟩ (by rw [sN_al]; omega) (by rw [sS_al]; omega) (fun pc2 npc a b d w ins cv sw lsr2 H2 locs2 ad2 g1 g2 g3 g4 g5 g6 => hE pc2 npc a b d w ins cv sw lsr2 H2 locs2 ad2 g1 g2 g3 (fun j hj => (g4 j (hj.elim (fun q => Or.inl (by rw [sN_al]; omega)) (fun q => Or.inr (z5 j q)))).trans (z4 j hj)) g5 g6)
  rw [List.map_cons, amap_agS z4 hos] at key
  have e : amap (va_up ad (sN σ) q) (.ref (sN σ)) = .ref q := by simp only [amap, va_up_self]
  rw [e] at key
  rw [← hbN]
  exact key
theorem ra_i {U : State} {c d : ClassId} (h1 : va_RA U c .int) (h2 : va_RA U d .int) : c = d := Option.some.inj (Eq.trans (Eq.symm h1) h2)
theorem ra_c {U : State} {c d : ClassId} (h1 : va_RA U c .char) (h2 : va_RA U d .char) : c = d := Option.some.inj (Eq.trans (Eq.symm h1) h2)
theorem ra_g {U : State} {c d : ClassId} {C : String} (h1 : va_RA U c (.object C)) (h2 : va_RA U d (.object C)) : c = d := by
  obtain ⟨-, -, -, -, -, h1⟩ := h1
  obtain ⟨-, -, -, -, -, h2⟩ := h2
  exact Option.some.inj (h1.symm.trans h2)
theorem ra_last {G : PG} {cA : ClassId} {ty : FieldType} {U : State} (h : va_K G.1 vwCl (tysF G ++ [(cA, ty)]) U) : va_RA U cA ty := (h.2 3 (cA, ty) rfl).2
set_option maxHeartbeats 4000000 in
theorem fs_newI {f : Nat} (ih : FS f) : FSat f (.newarray .int) := by
  intro m pc npc a b d w cv sw ls st σ M r σ1 M1 he hex G p l e R s mid args below meth c Q hC ad H locs cells slots lsr hY hcl hsl hE
  obtain ⟨hx, hb, hml, hown, hts, hKU, hini, hfr, hlo, hz⟩ := id hC
  obtain ⟨⟨hP, hD⟩, hZ, hS, hwf, hos, hol, hl, hlen⟩ := id hY
  have hg := fe_good he
  have hk := fe_link he
  have hd := dec_of_good hg
  rw [exec, he] at hex
  dsimp only at hex
  simp only [good, Bool.and_eq_true, decide_eq_true_eq] at hg
  cases hs : stA (.newarray .int) npc a b d cv sw ls st σ M with
  | none => rw [hs] at hex; cases hex
  | some res =>
  rw [hs] at hex
  obtain ⟨-, rfl, -⟩ := hg
  rw [Nat.add_sub_cancel_left] at hd
  obtain ⟨n, r1, e1, hs1⟩ := pI_some hs
  subst e1
  obtain ⟨h9, hs2⟩ := gd_some hs1
  obtain ⟨hin, hs3⟩ := ixI_some hs2
  obtain rfl := go_inl hs3
  have hex2 : exec f m (pc + 2) ls (.ref (sN σ) :: r1) (alloc σ 0 n.toNatClampNeg n.toNatClampNeg) (upM M (sN σ) (fun _ => 0)) = some (r, σ1, M1) := hex
  
  have hgr := exec_grow hex2
  rw [sN_al, sS_al] at hgr
  have hk0 : ¬ n < 0 := fun q => hin (Or.inl q)
  have hk1 : n.toNatClampNeg < 100000 := Nat.lt_of_not_le fun q => hin (Or.inr q)
  refine va_newa (atype := .int) (ty := .int) (a0 := (n.toNatClampNeg, .inl (fun _ => 0))) hx hb (hts _ (lwG_of wk_ai rfl)) rfl hKU.1 hP hD hS (fun q hq => Nat.le_trans hz hq) (fun cA => rfl) hk0 rfl (by show n.toNatClampNeg * 4 ≤ 536870912; omega) (by omega) (by omega) hd (fun q cA H1 qK q1 q2 q3 => ?_)
  obtain rfl : cA = G.2.1 := ra_i (ra_last qK) (hKU.1.2 0 _ rfl).2
  obtain ⟨z1, z2, z3, z4, z5⟩ := al_facts (q := q) (l := n.toNatClampNeg) (k := n.toNatClampNeg) hwf (show 0 ≠ 9 by decide) h9 hZ (E := .inl (G.2.1, n.toNatClampNeg, .inl (fun _ => 0))) (by
    rw [ent_0 (by rw [sT_al, upM_s]), sL_al, upM_s, upM_s])
  rw [← z1] at q1 q2
  have key := ih m (pc + 2) ls (.ref (sN σ) :: r1) _ _ r σ1 M1 hex2 G p l e R s mid args below meth c Q hC (va_up ad (sN σ) q) H1 locs (cells + 1) (slots + n.toNatClampNeg) lsr ⟨⟨q1, q2⟩, z2, q3, z3, okS_c (okV_r (Or.inl (by rw [sN_al]; omega))) (okS_to (by rw [sN_al]; omega) z5 (okS_t hos)), okL_to (by rw [sN_al]; omega) z5 hol, asc_ag z4 hol hl, hlen⟩ (by rw [sN_al]; omega) (by rw [sS_al]; omega) (fun pc2 npc a b d w ins cv sw lsr2 H2 locs2 ad2 g1 g2 g3 g4 g5 g6 => hE pc2 npc a b d w ins cv sw lsr2 H2 locs2 ad2 g1 g2 g3 (fun j hj => (g4 j (hj.elim (fun q => Or.inl (by rw [sN_al]; omega)) (fun q => Or.inr (z5 j q)))).trans (z4 j hj)) g5 g6)
  rw [List.map_cons, amap_agS z4 (okS_t hos)] at key
  have e : amap (va_up ad (sN σ) q) (.ref (sN σ)) = .ref q := by simp only [amap, va_up_self]
  rw [e] at key
  exact key
set_option maxHeartbeats 4000000 in
theorem fs_newC {f : Nat} (ih : FS f) : FSat f (.newarray .char) := by
  intro m pc npc a b d w cv sw ls st σ M r σ1 M1 he hex G p l e R s mid args below meth c Q hC ad H locs cells slots lsr hY hcl hsl hE
  obtain ⟨hx, hb, hml, hown, hts, hKU, hini, hfr, hlo, hz⟩ := id hC
  obtain ⟨⟨hP, hD⟩, hZ, hS, hwf, hos, hol, hl, hlen⟩ := id hY
  have hg := fe_good he
  have hk := fe_link he
  have hd := dec_of_good hg
  rw [exec, he] at hex
  dsimp only at hex
  simp only [good, Bool.and_eq_true, decide_eq_true_eq] at hg
  cases hs : stA (.newarray .char) npc a b d cv sw ls st σ M with
  | none => rw [hs] at hex; cases hex
  | some res =>
  rw [hs] at hex
  obtain ⟨-, rfl, -⟩ := hg
  rw [Nat.add_sub_cancel_left] at hd
  obtain ⟨n, r1, e1, hs1⟩ := pI_some hs
  subst e1
  obtain ⟨h9, hs2⟩ := gd_some hs1
  obtain ⟨hin, hs3⟩ := ixI_some hs2
  obtain rfl := go_inl hs3
  have hex2 : exec f m (pc + 2) ls (.ref (sN σ) :: r1) (alloc σ 1 n.toNatClampNeg n.toNatClampNeg) (upM M (sN σ) (fun _ => 0)) = some (r, σ1, M1) := hex
  
  have hgr := exec_grow hex2
  rw [sN_al, sS_al] at hgr
  have hk0 : ¬ n < 0 := fun q => hin (Or.inl q)
  have hk1 : n.toNatClampNeg < 100000 := Nat.lt_of_not_le fun q => hin (Or.inr q)
  refine va_newa (atype := .char) (ty := .char) (a0 := (n.toNatClampNeg, .inl (fun _ => 0))) hx hb (hts _ (lwG_of wk_ac rfl)) rfl hKU.1 hP hD hS (fun q hq => Nat.le_trans hz hq) (fun cA => rfl) hk0 rfl (by show n.toNatClampNeg * 2 ≤ 536870912; omega) (by omega) (by omega) hd (fun q cA H1 qK q1 q2 q3 => ?_)
  obtain rfl : cA = G.2.2.1 := ra_c (ra_last qK) (hKU.1.2 1 _ rfl).2
  obtain ⟨z1, z2, z3, z4, z5⟩ := al_facts (q := q) (l := n.toNatClampNeg) (k := n.toNatClampNeg) hwf (show 1 ≠ 9 by decide) h9 hZ (E := .inl (G.2.2.1, n.toNatClampNeg, .inl (fun _ => 0))) (by
    rw [ent_1 (by rw [sT_al, upM_s]), sL_al, upM_s, upM_s])
  rw [← z1] at q1 q2
  have key := ih m (pc + 2) ls (.ref (sN σ) :: r1) _ _ r σ1 M1 hex2 G p l e R s mid args below meth c Q hC (va_up ad (sN σ) q) H1 locs (cells + 1) (slots + n.toNatClampNeg) lsr ⟨⟨q1, q2⟩, z2, q3, z3, okS_c (okV_r (Or.inl (by rw [sN_al]; omega))) (okS_to (by rw [sN_al]; omega) z5 (okS_t hos)), okL_to (by rw [sN_al]; omega) z5 hol, asc_ag z4 hol hl, hlen⟩ (by rw [sN_al]; omega) (by rw [sS_al]; omega) (fun pc2 npc a b d w ins cv sw lsr2 H2 locs2 ad2 g1 g2 g3 g4 g5 g6 => hE pc2 npc a b d w ins cv sw lsr2 H2 locs2 ad2 g1 g2 g3 (fun j hj => (g4 j (hj.elim (fun q => Or.inl (by rw [sN_al]; omega)) (fun q => Or.inr (z5 j q)))).trans (z4 j hj)) g5 g6)
  rw [List.map_cons, amap_agS z4 (okS_t hos)] at key
  have e : amap (va_up ad (sN σ) q) (.ref (sN σ)) = .ref q := by simp only [amap, va_up_self]
  rw [e] at key
  exact key
set_option maxHeartbeats 4000000 in
theorem fs_anewarray {f : Nat} (ih : FS f) (idx : Nat) : FSat f (.anewarray idx) := by
  intro m pc npc a b d w cv sw ls st σ M r σ1 M1 he hex G p l e R s mid args below meth c Q hC ad H locs cells slots lsr hY hcl hsl hE
  obtain ⟨hx, hb, hml, hown, hts, hKU, hini, hfr, hlo, hz⟩ := id hC
  obtain ⟨⟨hP, hD⟩, hZ, hS, hwf, hos, hol, hl, hlen⟩ := id hY
  have hg := fe_good he
  have hk := fe_link he
  have hd := dec_of_good hg
  rw [exec, he] at hex
  dsimp only at hex
  simp only [good, Bool.and_eq_true, decide_eq_true_eq] at hg
  cases hs : stA (.anewarray idx) npc a b d cv sw ls st σ M with
  | none => rw [hs] at hex; cases hex
  | some res =>
  rw [hs] at hex
  obtain ⟨-, rfl⟩ := hg
  rw [Nat.add_sub_cancel_left] at hd
  obtain ⟨n, r1, e1, hs1⟩ := pI_some hs
  subst e1
  obtain ⟨h9, hs2⟩ := gd_some hs1
  obtain ⟨hin, hs3⟩ := ixI_some hs2
  obtain rfl := go_inl hs3
  have hex2 : exec f m (pc + 3) ls (.ref (sN σ) :: r1) (alloc σ 2 n.toNatClampNeg n.toNatClampNeg) (upM M (sN σ) (fun _ => 0)) = some (r, σ1, M1) := hex
  simp only [LkP] at hk
  
  have hgr := exec_grow hex2
  rw [sN_al, sS_al] at hgr
  have hk0 : ¬ n < 0 := fun q => hin (Or.inl q)
  have hk1 : n.toNatClampNeg < 100000 := Nat.lt_of_not_le fun q => hin (Or.inr q)
  refine va_newq (C := "AntTrails$Ground") hx hb hown (hts _ (lwG_of hk rfl)) hKU.2.2.2 hKU.1 hP hD hS (fun q hq => Nat.le_trans hz hq) hk0 rfl (by omega) (by omega) (by omega) hd (fun q cA H1 qK q1 q2 q3 => ?_)
  obtain rfl : cA = G.2.2.2.1 := ra_g (ra_last qK) (hKU.1.2 2 _ rfl).2
  obtain ⟨z1, z2, z3, z4, z5⟩ := al_facts (q := q) (l := n.toNatClampNeg) (k := n.toNatClampNeg) hwf (show 2 ≠ 9 by decide) h9 hZ (E := .inl (G.2.2.2.1, n.toNatClampNeg, .inr (.inr (.inr (.inr (fun _ => none)))))) (by
    rw [ent_2 (by rw [sT_al, upM_s]), sL_al, upM_s, sR_al, upM_s]
    rfl)
  rw [← z1] at q1 q2
  have key := ih m (pc + 3) ls (.ref (sN σ) :: r1) _ _ r σ1 M1 hex2 G p l e R s mid args below meth c Q hC (va_up ad (sN σ) q) H1 locs (cells + 1) (slots + n.toNatClampNeg) lsr ⟨⟨q1, q2⟩, z2, q3, z3, okS_c (okV_r (Or.inl (by rw [sN_al]; omega))) (okS_to (by rw [sN_al]; omega) z5 (okS_t hos)), okL_to (by rw [sN_al]; omega) z5 hol, asc_ag z4 hol hl, hlen⟩ (by rw [sN_al]; omega) (by rw [sS_al]; omega) (fun pc2 npc a b d w ins cv sw lsr2 H2 locs2 ad2 g1 g2 g3 g4 g5 g6 => hE pc2 npc a b d w ins cv sw lsr2 H2 locs2 ad2 g1 g2 g3 (fun j hj => (g4 j (hj.elim (fun q => Or.inl (by rw [sN_al]; omega)) (fun q => Or.inr (z5 j q)))).trans (z4 j hj)) g5 g6)
  rw [List.map_cons, amap_agS z4 (okS_t hos)] at key
  have e : amap (va_up ad (sN σ) q) (.ref (sN σ)) = .ref q := by simp only [amap, va_up_self]
  rw [e] at key
  exact key
