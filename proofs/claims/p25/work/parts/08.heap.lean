theorem rng_get {N k : Nat} {g : Nat → Value} (h : k < N) : ((List.range N).map g)[k]? = some (g k) := by simp [h]
theorem rng_set {N k : Nat} {g g2 : Nat → Value} {v : Value} (hk : g2 k = v) (ho : ∀ j, j ≠ k → g2 j = g j) : (List.range N).map g2 = ((List.range N).map g).set k v := by
  apply List.ext_getElem?
  intro i
  rw [List.getElem?_set]
  by_cases hi : i < N
  · by_cases h : k = i
    · subst h
      simp [hi, hk]
    · rw [if_neg h]
      simp [hi, ho i (fun q => h q.symm)]
  · by_cases h : k = i
    · subst h
      simp [hi]
    · rw [if_neg h]
      simp [hi]
theorem va_f_get {N k : Nat} {g : Nat → Value} (h : k < N) : vp_V ((List.range N).map g) k = g k := by simp [vp_V, h]
theorem sR_set {σ : Sg} {o : Nat} {f : Nat → Option Nat} : sR (setR σ o f) = upM (sR σ) o f := rfl
theorem sT_set {σ : Sg} {o : Nat} {f : Nat → Option Nat} : sT (setR σ o f) = sT σ := rfl
theorem sL_set {σ : Sg} {o : Nat} {f : Nat → Option Nat} : sL (setR σ o f) = sL σ := rfl
theorem sN_set {σ : Sg} {o : Nat} {f : Nat → Option Nat} : sN (setR σ o f) = sN σ := rfl
theorem fld_cls {ad : Nat → Nat} {R : Option Nat} {x : Int32} {t : FieldType} (h : tcv t ≠ .null) : fldV ad R x (tcv t) = .int x := by
  cases t <;> first | rfl | exact absurd rfl h
/-- an int goes into a field of an int's or a boolean's type as it is -/
theorem put_nar {t : FieldType} {x : Int32} (h : tcv t ≠ .null) (hp : putI (tcv t) x = true) : narrow t (.int x) = .int x ∧ fits t (.int x) = true := by
  cases t with
  | int => exact ⟨rfl, rfl⟩
  | boolean =>
    have h2 : x = 0 ∨ x = 1 := by
      have h3 : okB x = true := by simpa [tcv, putI, show ¬ nI 1 = 0 from by decide] using hp
      simpa [okB] using h3
    rcases h2 with rfl | rfl <;> exact ⟨rfl, rfl⟩
  | _ => exact absurd rfl h
theorem put_ref {t : FieldType} {v : Nat} (ht : t.isReference = true) : narrow t (.ref v) = .ref v ∧ fits t (.ref v) = true := by
  cases t <;> first | exact absurd ht (by decide) | exact ⟨rfl, rfl⟩
theorem ZU.kM {G : PG} {ad : Nat → Nat} {σ σ2 : Sg} {M M2 : Mem} {U : State} {H : Heap} {o : Nat} (h : ZU G ad σ M U H) (ho : sT σ o ≠ 9) (hT : sT σ2 = sT σ) (hL : sL σ2 = sL σ) (hM : ∀ i, i ≠ o → M2 i = M i) : ZU G ad σ2 M2 U H :=
  h.to (fun i => by rw [hT]) (fun i hi => ⟨rfl, by rw [hL], hM i (fun q => ho (by rw [← q]; exact hi))⟩)
theorem okV_t {σ σ2 : Sg} (hN : sN σ ≤ sN σ2) (hT : ∀ i, sT σ i = 9 → sT σ2 i = 9) {v : Value} (h : okV σ v) : okV σ2 v := fun j hj => (h j hj).elim (fun q => Or.inl (Nat.lt_of_lt_of_le q hN)) (fun q => Or.inr (hT j q))
theorem okS_to {σ σ2 : Sg} (hN : sN σ ≤ sN σ2) (hT : ∀ i, sT σ i = 9 → sT σ2 i = 9) {st : List Value} (h : okS σ st) : okS σ2 st := fun v hv => okV_t hN hT (h v hv)
theorem okL_to {σ σ2 : Sg} (hN : sN σ ≤ sN σ2) (hT : ∀ i, sT σ i = 9 → sT σ2 i = 9) {ls : Lcl} (h : okL σ ls) : okL σ2 ls := fun k v hv => okV_t hN hT (h k v hv)
theorem cw_M {G : PG} {ad : Nat → Nat} {σ : Sg} {M : Mem} {o : Nat} {f : Nat → Int32} {E : va_E} (hE : ent G ad σ (upM M o f) o = E) : cw G ad σ (upM M o f) = (cw G ad σ M).set o (ad o, E) :=
  cw_set rfl hE (fun i hi => ent_same rfl rfl (upM_n hi) (fun _ => rfl))
theorem cw_R {G : PG} {ad : Nat → Nat} {σ : Sg} {M : Mem} {o : Nat} {f : Nat → Option Nat} {E : va_E} (hE : ent G ad (setR σ o f) M o = E) : cw G ad (setR σ o f) M = (cw G ad σ M).set o (ad o, E) :=
  cw_set rfl hE (fun i hi => ent_same rfl rfl rfl (fun k => by rw [sR_set, upM_n hi]))
theorem wf_M {σ : Sg} (h : wfS σ) {o k v : Nat} (hv : v < sN σ) : wfS (setR σ o (upM (sR σ o) k (some v))) := by
  refine ⟨fun i j q hq => ?_, h.2⟩
  rw [sR_set] at hq
  unfold upM at hq
  split at hq
  · dsimp only at hq
    split at hq
    · cases hq; exact hv
    · exact h.1 o j q hq
  · exact h.1 i j q hq
set_option maxHeartbeats 4000000 in
theorem fs_getfield {f : Nat} (ih : FS f) (idx : Nat) : FSat f (.getfield idx) := by
  intro m pc npc a b d w cv sw ls st σ M r σ1 M1 he hex G p l e R s mid args below meth c Q hC ad H locs cells slots lsr hY hcl hsl hE
  obtain ⟨hx, hb, hml, hown, hts, hKU, hini, hfr, hlo, hz⟩ := id hC
  obtain ⟨⟨hP, hD⟩, hZ, hS, hwf, hos, hol, hl, hlen⟩ := id hY
  have hg := fe_good he
  have hk := fe_link he
  have hd := dec_of_good hg
  rw [exec, he] at hex
  dsimp only at hex
  simp only [good, Bool.and_eq_true, decide_eq_true_eq] at hg
  have nx : ∀ (pc1 : Nat) (st1 : List Value), exec f m pc1 ls st1 σ M = some (r, σ1, M1) → okS σ st1 → W p l e R s mid args below meth c H locs cells slots Q (F0 mid pc1 lsr (st1.map (amap ad))) := fun pc1 st1 h1 h2 => ih m pc1 ls st1 σ M r σ1 M1 h1 G p l e R s mid args below meth c Q hC ad H locs cells slots lsr ⟨⟨hP, hD⟩, hZ, hS, hwf, h2, hol, hl, hlen⟩ hcl hsl hE
  cases hs : stA (.getfield idx) npc a b d cv sw ls st σ M with
  | none => rw [hs] at hex; cases hex
  | some res =>
  rw [hs] at hex
  obtain ⟨-, ⟨rfl, h10, h8, hbN⟩, rfl⟩ := hg
  rw [Nat.add_sub_cancel_left] at hd
  obtain ⟨o, r1, rfl, hs⟩ := pR_some hs
  obtain ⟨ht, hs⟩ := gd_some hs
  obtain rfl := go_inl hs
  have ho : o < sN σ := okA_obj (okS_h hos o rfl) (by omega)
  have hcw := cw_get (G := G) (ad := ad) (M := M) ho
  rw [ent_obj ht h10] at hcw
  simp only [LkP, FL] at hk
  have hne : okS σ (getF (tcv (cY (a - 10) b)) (sR σ o b) (M o b) :: r1) := okS_c (fun j hj => Or.inl (hwf.1 o b j (by
    unfold getF at hj
    split at hj
    · cases hq : sR σ o b with
      | none => rw [hq] at hj; cases hj
      | some z => rw [hq] at hj; cases hj; rfl
    · cases hj))) (okS_t hos)
  have key := nx (pc + 3) _ hex hne
  rw [List.map_cons, getF_map] at key
  split at hk
  · exact va_get (D := G.1) (ci := a - 10) (C := cN (a - 10)) (T := cT (a - 10)) (N := cF (a - 10)) hx hb hts (uw_ok _ h8) hown hKU.1 hP o hcw (vw_ok _ h8) b hbN (hts _ (lwG_of hk rfl)) (fun _ h9 => h9) (rng_get hbN) hd key
  · exact va_getN (D := G.1) (ci := a - 10) (C := cN (a - 10)) (T := cT (a - 10)) (N := cF (a - 10)) hx hb hts (uw_ok _ h8) hown hKU.1 hP o hcw (vw_ok _ h8) b hbN (va_Nw.use rfl (hKU.2.1 _ _ _ _ _ _ hk)) (fun _ h9 => h9) (rng_get hbN) hd key
set_option maxHeartbeats 4000000 in
theorem fs_putfield {f : Nat} (ih : FS f) (idx : Nat) : FSat f (.putfield idx) := by
  intro m pc npc a b d w cv sw ls st σ M r σ1 M1 he hex G p l e R s mid args below meth c Q hC ad H locs cells slots lsr hY hcl hsl hE
  obtain ⟨hx, hb, hml, hown, hts, hKU, hini, hfr, hlo, hz⟩ := id hC
  obtain ⟨⟨hP, hD⟩, hZ, hS, hwf, hos, hol, hl, hlen⟩ := id hY
  have hg := fe_good he
  have hk := fe_link he
  have hd := dec_of_good hg
  rw [exec, he] at hex
  dsimp only at hex
  simp only [good, Bool.and_eq_true, decide_eq_true_eq] at hg
  cases hs : stA (.putfield idx) npc a b d cv sw ls st σ M with
  | none => rw [hs] at hex; cases hex
  | some res =>
  rw [hs] at hex
  obtain ⟨-, ⟨rfl, h10, h8, hbN⟩, rfl⟩ := hg
  rw [Nat.add_sub_cancel_left] at hd
  simp only [stA, putF] at hs
  split at hs
  · rename_i hnn
    obtain ⟨v, r1, e1, hs1⟩ := pR_some hs
    obtain ⟨o, r2, e2, hs2⟩ := pR_some hs1
    subst e2
    subst e1
    obtain ⟨⟨ht, hv9⟩, hs3⟩ := gd_some hs2
    obtain rfl := go_inl hs3
    have hv : v < sN σ := okA_obj (okS_h hos v rfl) hv9
    have hnf := put_ref (t := cY (a - 10) b) (v := ad v) (rf_ok _ h8 b hbN hnn)
    have ho : o < sN σ := okA_obj (okS_h (okS_t hos) o rfl) (by omega)
    have hcw := cw_get (G := G) (ad := ad) (M := M) ho
    rw [ent_obj ht h10] at hcw
    have hnew : cw G ad (setR σ o (upM (sR σ o) b (some v))) M = (cw G ad σ M).set o (ad o, .inr (a - 10, ((List.range (cF (a - 10))).map (fun k => fldV ad (sR σ o k) (M o k) (tcv (cY (a - 10) k)))).set b (.ref (ad v)))) := by
      refine cw_R ?_
      rw [ent_obj (t := a) (by rw [sT_set]; exact ht) h10]
      refine congrArg (fun q => (Sum.inr (a - 10, q) : va_E)) (rng_set ?_ (fun j hj => ?_))
      · rw [sR_set, upM_s, upM_s, hnn]; rfl
      · rw [sR_set, upM_s, upM_n hj]
    have key : ∀ (H1 : Heap) (locs1 : List Jvm.Loc), va_P G.1 vwCl ((cw G ad σ M).set o (ad o, .inr (a - 10, ((List.range (cF (a - 10))).map (fun k => fldV ad (sR σ o k) (M o k) (tcv (cY (a - 10) k)))).set b (.ref (ad v))))) H1 → va_D (AA G) ((cw G ad σ M).set o (ad o, .inr (a - 10, ((List.range (cF (a - 10))).map (fun k => fldV ad (sR σ o k) (M o k) (tcv (cY (a - 10) k)))).set b (.ref (ad v))))) → va_S (AA G) s.heap H1 locs1 → W p l e R s mid args below meth c H1 locs1 cells slots Q (F0 mid (pc + 3) lsr (r2.map (amap ad))) := by
      intro H1 locs1 q1 q2 q3
      rw [← hnew] at q1 q2
      exact ih m (pc + 3) ls r2 (setR σ o (upM (sR σ o) b (some v))) M r σ1 M1 hex G p l e R s mid args below meth c Q hC ad H1 locs1 cells slots lsr ⟨⟨q1, q2⟩, hZ.kM (o := o) (by omega) rfl rfl (fun i hi => rfl), q3, wf_M hwf hv, okS_t (okS_t hos), hol, hl, hlen⟩ hcl hsl hE
    simp only [LkP] at hk
    obtain ⟨hk1, hk2⟩ := hk
    simp only [FL] at hk1
    have hfs : b < ((List.range (cF (a - 10))).map (fun k => fldV ad (sR σ o k) (M o k) (tcv (cY (a - 10) k)))).length := by rw [List.length_map, List.length_range]; exact hbN
    unfold FI at hk2
    split at hk2
    · rename_i hfin
      obtain ⟨g1, g2, g3⟩ := hk2
      subst g3
      exact va_putF (D := G.1) (ci := a - 10) (C := cN (a - 10)) (T := cT (a - 10)) (N := cF (a - 10)) hx hb hts (uw_ok _ h8) (cY (a - 10)) (ty_ok _ h8) (nm_ok _ h8) hown hKU.1 hP hD hS o hcw (vw_ok _ h8) b hbN (hts _ (lwG_of hk1 rfl)) (fun _ h9 => h9) hfin (hini g1) g2 (ty_ok _ h8 b hbN) hnf.1 hnf.2 hfs hd key
    · rename_i hfin
      split at hk1
      · exact va_put (D := G.1) (ci := a - 10) (C := cN (a - 10)) (T := cT (a - 10)) (N := cF (a - 10)) hx hb hts (uw_ok _ h8) (cY (a - 10)) (ty_ok _ h8) (nm_ok _ h8) hown hKU.1 hP hD hS o hcw (vw_ok _ h8) b hbN (hts _ (lwG_of hk1 rfl)) (fun _ h9 => h9) hfin (ty_ok _ h8 b hbN) hnf.1 hnf.2 hfs hd key
      · exact va_putN (D := G.1) (ci := a - 10) (C := cN (a - 10)) (T := cT (a - 10)) (N := cF (a - 10)) hx hb hts (uw_ok _ h8) (cY (a - 10)) (ty_ok _ h8) (nm_ok _ h8) hown hKU.1 hP hD hS o hcw (vw_ok _ h8) b hbN (va_Nw.use rfl (hKU.2.1 _ _ _ _ _ _ hk1)) (fun _ h9 => h9) hfin (ty_ok _ h8 b hbN) hnf.1 hnf.2 hfs hd key
  · rename_i hnn
    have hnn : tcv (cY (a - 10) b) ≠ .null := hnn
    obtain ⟨x, r1, e1, hs1⟩ := pI_some hs
    obtain ⟨o, r2, e2, hs2⟩ := pR_some hs1
    subst e2
    subst e1
    obtain ⟨⟨ht, hpt⟩, hs3⟩ := gd_some hs2
    obtain rfl := go_inl hs3
    have hnf := put_nar hnn hpt
    have ho : o < sN σ := okA_obj (okS_h (okS_t hos) o rfl) (by omega)
    have hcw := cw_get (G := G) (ad := ad) (M := M) ho
    rw [ent_obj ht h10] at hcw
    have hnew : cw G ad σ (upM M o (upI (M o) b x)) = (cw G ad σ M).set o (ad o, .inr (a - 10, ((List.range (cF (a - 10))).map (fun k => fldV ad (sR σ o k) (M o k) (tcv (cY (a - 10) k)))).set b (.int x))) := by
      refine cw_M ?_
      rw [ent_obj (t := a) ht h10]
      refine congrArg (fun q => (Sum.inr (a - 10, q) : va_E)) (rng_set ?_ (fun j hj => ?_))
      · rw [upM_s, fld_cls hnn]; exact congrArg Value.int (if_pos rfl)
      · rw [upM_s]; simp only [upI, if_neg hj]
    have key : ∀ (H1 : Heap) (locs1 : List Jvm.Loc), va_P G.1 vwCl ((cw G ad σ M).set o (ad o, .inr (a - 10, ((List.range (cF (a - 10))).map (fun k => fldV ad (sR σ o k) (M o k) (tcv (cY (a - 10) k)))).set b (.int x)))) H1 → va_D (AA G) ((cw G ad σ M).set o (ad o, .inr (a - 10, ((List.range (cF (a - 10))).map (fun k => fldV ad (sR σ o k) (M o k) (tcv (cY (a - 10) k)))).set b (.int x)))) → va_S (AA G) s.heap H1 locs1 → W p l e R s mid args below meth c H1 locs1 cells slots Q (F0 mid (pc + 3) lsr (r2.map (amap ad))) := by
      intro H1 locs1 q1 q2 q3
      rw [← hnew] at q1 q2
      exact ih m (pc + 3) ls r2 σ (upM M o (upI (M o) b x)) r σ1 M1 hex G p l e R s mid args below meth c Q hC ad H1 locs1 cells slots lsr ⟨⟨q1, q2⟩, hZ.kM (o := o) (by omega) rfl rfl (fun i hi => upM_n hi), q3, hwf, okS_t (okS_t hos), hol, hl, hlen⟩ hcl hsl hE
    simp only [LkP] at hk
    obtain ⟨hk1, hk2⟩ := hk
    simp only [FL] at hk1
    have hfs : b < ((List.range (cF (a - 10))).map (fun k => fldV ad (sR σ o k) (M o k) (tcv (cY (a - 10) k)))).length := by rw [List.length_map, List.length_range]; exact hbN
    unfold FI at hk2
    split at hk2
    · rename_i hfin
      obtain ⟨g1, g2, g3⟩ := hk2
      subst g3
      exact va_putF (D := G.1) (ci := a - 10) (C := cN (a - 10)) (T := cT (a - 10)) (N := cF (a - 10)) hx hb hts (uw_ok _ h8) (cY (a - 10)) (ty_ok _ h8) (nm_ok _ h8) hown hKU.1 hP hD hS o hcw (vw_ok _ h8) b hbN (hts _ (lwG_of hk1 rfl)) (fun _ h9 => h9) hfin (hini g1) g2 (ty_ok _ h8 b hbN) hnf.1 hnf.2 hfs hd key
    · rename_i hfin
      split at hk1
      · exact va_put (D := G.1) (ci := a - 10) (C := cN (a - 10)) (T := cT (a - 10)) (N := cF (a - 10)) hx hb hts (uw_ok _ h8) (cY (a - 10)) (ty_ok _ h8) (nm_ok _ h8) hown hKU.1 hP hD hS o hcw (vw_ok _ h8) b hbN (hts _ (lwG_of hk1 rfl)) (fun _ h9 => h9) hfin (ty_ok _ h8 b hbN) hnf.1 hnf.2 hfs hd key
      · exact va_putN (D := G.1) (ci := a - 10) (C := cN (a - 10)) (T := cT (a - 10)) (N := cF (a - 10)) hx hb hts (uw_ok _ h8) (cY (a - 10)) (ty_ok _ h8) (nm_ok _ h8) hown hKU.1 hP hD hS o hcw (vw_ok _ h8) b hbN (va_Nw.use rfl (hKU.2.1 _ _ _ _ _ _ hk1)) (fun _ h9 => h9) hfin (ty_ok _ h8 b hbN) hnf.1 hnf.2 hfs hd key
