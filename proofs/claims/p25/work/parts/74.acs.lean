/-! the law's acts: settings; all of them -/
section ACS
variable {L : Nat} {xs : Nat → Int32} {σ τ : Sg} {M M' : Mem} {I : Nat → Nat} {s s' : Nat → Nat} {H : Nat → Nat → Nat} {n len B : Nat} {T : Nat → Nat} {r : Int32}
theorem nI_z {a : Nat} (h : a < 1000000) : (nI a = 0) = (a = 0) := by
  rw [← nI_0]
  exact nI_lit h (by omega)
def lst (w : Nat) : Nat := if w = 7 then 1 else sMn w
def mst (w : Nat) : Nat := if w = 7 then 99 else sMx w
set_option maxHeartbeats 2000000 in
theorem sval (y : Int32) (l0 l1 l3 l4 l5 l6 l7 l8 l9 l10 l11 : Option Value) (h5 : isLong l5 = false) (σ : Sg) (M : Mem) : ∃ w v, w < 8 ∧ v < 20000 ∧ ∀ Q, wp 103 596 [l0, l1, some (.int y), l3, l4, l5, l6, l7, l8, l9, l10, l11] [] σ M Q = wp 103 759 [l0, l1, some (.int y), l3, l4, l5, some (.int (nI w)), some (.int (nI v)), some (.int (nI (lst w))), some (.int (nI (mst w))), l10, l11] [] σ M Q := by
  have l8' := fun Q => l95 (v := y) (m := 8) (by omega) (by omega) (σ := σ) (M := M) Q
  have b8 := lw_lt (v := y) (m := 8) (by omega)
  have key : ∀ m, 0 < m → m < 20000 → ∃ v, v < 20000 ∧ ∀ Q, wp 95 0 [some (.int (y >>> (nI 3 &&& 31))), some (.int (nI m))] [] σ M Q = Q (some (.int (nI v))) σ M := fun m h0 h => by
    have b := lw_lt (v := y >>> (nI 3 &&& 31)) (m := m) h0
    exact ⟨lw (y >>> (nI 3 &&& 31)) m, by omega, fun Q => l95 h0 (by omega) Q⟩
  generalize lw y 8 = w at *
  rcases (show w = 0 ∨ w = 1 ∨ w = 2 ∨ w = 3 ∨ w = 4 ∨ w = 5 ∨ w = 6 ∨ w = 7 by omega) with c | c | c | c | c | c | c | c
  · subst c
    obtain ⟨v, hv, a⟩ := key 7 (by omega) (by omega)
    refine ⟨0, v, by omega, hv, fun Q => ?_⟩
    simp only [k103_596, k103_597, k103_599, k103_602, k103_604, k103_605, k103_606, k103_607, k103_609, k103_612, k103_614, k103_617, k103_619, k103_620, k103_623, k103_625, k103_628, k103_630, k103_631, k103_634, k103_637, k103_640, k103_642, k103_643, k103_646, k103_648, k103_651, k103_653, k103_654, k103_657, k103_660, k103_663, k103_665, k103_668, k103_670, k103_672, k103_673, k103_676, k103_678, k103_679, k103_682, k103_683, k103_686, k103_688, k103_689, k103_692, k103_694, k103_697, k103_698, k103_700, k103_702, k103_705, k103_706, k103_709, k103_711, k103_712, k103_715, k103_717, k103_720, k103_722, k103_723, k103_726, k103_729, k103_732, k103_734, k103_735, k103_738, k103_740, k103_743, k103_745, k103_746, k103_749, k103_752, k103_755, k103_757, rf_s, pushR_s, pushR_n, le4_0, le4_1, le4_2, le4_3, le4_4, isLong_n, isLong_i, isLong_r, isLong_f, if_true, if_false, not_true_eq_false, not_false_eq_true, isI_0, isI_9, isAr_0, isAr_1, isAr_2, isAr_9, okR_i, okR_0, okR_1, putI_0, putI_b0, putI_b1, nI_10, nI_00, Nat.reduceLT, Nat.reduceLeDiff, nI_add, upM_s, upI_s, pk_mul, nf_at, h5, l8', a, nI_z, nI_lit, Nat.reduceEqDiff]
    rfl
  · subst c
    obtain ⟨v, hv, a⟩ := key 93 (by omega) (by omega)
    refine ⟨1, v, by omega, hv, fun Q => ?_⟩
    simp only [k103_596, k103_597, k103_599, k103_602, k103_604, k103_605, k103_606, k103_607, k103_609, k103_612, k103_614, k103_617, k103_619, k103_620, k103_623, k103_625, k103_628, k103_630, k103_631, k103_634, k103_637, k103_640, k103_642, k103_643, k103_646, k103_648, k103_651, k103_653, k103_654, k103_657, k103_660, k103_663, k103_665, k103_668, k103_670, k103_672, k103_673, k103_676, k103_678, k103_679, k103_682, k103_683, k103_686, k103_688, k103_689, k103_692, k103_694, k103_697, k103_698, k103_700, k103_702, k103_705, k103_706, k103_709, k103_711, k103_712, k103_715, k103_717, k103_720, k103_722, k103_723, k103_726, k103_729, k103_732, k103_734, k103_735, k103_738, k103_740, k103_743, k103_745, k103_746, k103_749, k103_752, k103_755, k103_757, rf_s, pushR_s, pushR_n, le4_0, le4_1, le4_2, le4_3, le4_4, isLong_n, isLong_i, isLong_r, isLong_f, if_true, if_false, not_true_eq_false, not_false_eq_true, isI_0, isI_9, isAr_0, isAr_1, isAr_2, isAr_9, okR_i, okR_0, okR_1, putI_0, putI_b0, putI_b1, nI_10, nI_00, Nat.reduceLT, Nat.reduceLeDiff, nI_add, upM_s, upI_s, pk_mul, nf_at, h5, l8', a, nI_z, nI_lit, Nat.reduceEqDiff]
    rfl
  · subst c
    obtain ⟨v, hv, a⟩ := key 1002 (by omega) (by omega)
    refine ⟨2, v, by omega, hv, fun Q => ?_⟩
    simp only [k103_596, k103_597, k103_599, k103_602, k103_604, k103_605, k103_606, k103_607, k103_609, k103_612, k103_614, k103_617, k103_619, k103_620, k103_623, k103_625, k103_628, k103_630, k103_631, k103_634, k103_637, k103_640, k103_642, k103_643, k103_646, k103_648, k103_651, k103_653, k103_654, k103_657, k103_660, k103_663, k103_665, k103_668, k103_670, k103_672, k103_673, k103_676, k103_678, k103_679, k103_682, k103_683, k103_686, k103_688, k103_689, k103_692, k103_694, k103_697, k103_698, k103_700, k103_702, k103_705, k103_706, k103_709, k103_711, k103_712, k103_715, k103_717, k103_720, k103_722, k103_723, k103_726, k103_729, k103_732, k103_734, k103_735, k103_738, k103_740, k103_743, k103_745, k103_746, k103_749, k103_752, k103_755, k103_757, rf_s, pushR_s, pushR_n, le4_0, le4_1, le4_2, le4_3, le4_4, isLong_n, isLong_i, isLong_r, isLong_f, if_true, if_false, not_true_eq_false, not_false_eq_true, isI_0, isI_9, isAr_0, isAr_1, isAr_2, isAr_9, okR_i, okR_0, okR_1, putI_0, putI_b0, putI_b1, nI_10, nI_00, Nat.reduceLT, Nat.reduceLeDiff, nI_add, upM_s, upI_s, pk_mul, nf_at, h5, l8', a, nI_z, nI_lit, Nat.reduceEqDiff]
    rfl
  · subst c
    obtain ⟨v, hv, a⟩ := key 12 (by omega) (by omega)
    refine ⟨3, v, by omega, hv, fun Q => ?_⟩
    simp only [k103_596, k103_597, k103_599, k103_602, k103_604, k103_605, k103_606, k103_607, k103_609, k103_612, k103_614, k103_617, k103_619, k103_620, k103_623, k103_625, k103_628, k103_630, k103_631, k103_634, k103_637, k103_640, k103_642, k103_643, k103_646, k103_648, k103_651, k103_653, k103_654, k103_657, k103_660, k103_663, k103_665, k103_668, k103_670, k103_672, k103_673, k103_676, k103_678, k103_679, k103_682, k103_683, k103_686, k103_688, k103_689, k103_692, k103_694, k103_697, k103_698, k103_700, k103_702, k103_705, k103_706, k103_709, k103_711, k103_712, k103_715, k103_717, k103_720, k103_722, k103_723, k103_726, k103_729, k103_732, k103_734, k103_735, k103_738, k103_740, k103_743, k103_745, k103_746, k103_749, k103_752, k103_755, k103_757, rf_s, pushR_s, pushR_n, le4_0, le4_1, le4_2, le4_3, le4_4, isLong_n, isLong_i, isLong_r, isLong_f, if_true, if_false, not_true_eq_false, not_false_eq_true, isI_0, isI_9, isAr_0, isAr_1, isAr_2, isAr_9, okR_i, okR_0, okR_1, putI_0, putI_b0, putI_b1, nI_10, nI_00, Nat.reduceLT, Nat.reduceLeDiff, nI_add, upM_s, upI_s, pk_mul, nf_at, h5, l8', a, nI_z, nI_lit, Nat.reduceEqDiff]
    rfl
  · subst c
    obtain ⟨v, hv, a⟩ := key 102 (by omega) (by omega)
    refine ⟨4, v, by omega, hv, fun Q => ?_⟩
    simp only [k103_596, k103_597, k103_599, k103_602, k103_604, k103_605, k103_606, k103_607, k103_609, k103_612, k103_614, k103_617, k103_619, k103_620, k103_623, k103_625, k103_628, k103_630, k103_631, k103_634, k103_637, k103_640, k103_642, k103_643, k103_646, k103_648, k103_651, k103_653, k103_654, k103_657, k103_660, k103_663, k103_665, k103_668, k103_670, k103_672, k103_673, k103_676, k103_678, k103_679, k103_682, k103_683, k103_686, k103_688, k103_689, k103_692, k103_694, k103_697, k103_698, k103_700, k103_702, k103_705, k103_706, k103_709, k103_711, k103_712, k103_715, k103_717, k103_720, k103_722, k103_723, k103_726, k103_729, k103_732, k103_734, k103_735, k103_738, k103_740, k103_743, k103_745, k103_746, k103_749, k103_752, k103_755, k103_757, rf_s, pushR_s, pushR_n, le4_0, le4_1, le4_2, le4_3, le4_4, isLong_n, isLong_i, isLong_r, isLong_f, if_true, if_false, not_true_eq_false, not_false_eq_true, isI_0, isI_9, isAr_0, isAr_1, isAr_2, isAr_9, okR_i, okR_0, okR_1, putI_0, putI_b0, putI_b1, nI_10, nI_00, Nat.reduceLT, Nat.reduceLeDiff, nI_add, upM_s, upI_s, pk_mul, nf_at, h5, l8', a, nI_z, nI_lit, Nat.reduceEqDiff]
    rfl
  · subst c
    obtain ⟨v, hv, a⟩ := key 10100 (by omega) (by omega)
    refine ⟨5, v, by omega, hv, fun Q => ?_⟩
    simp only [k103_596, k103_597, k103_599, k103_602, k103_604, k103_605, k103_606, k103_607, k103_609, k103_612, k103_614, k103_617, k103_619, k103_620, k103_623, k103_625, k103_628, k103_630, k103_631, k103_634, k103_637, k103_640, k103_642, k103_643, k103_646, k103_648, k103_651, k103_653, k103_654, k103_657, k103_660, k103_663, k103_665, k103_668, k103_670, k103_672, k103_673, k103_676, k103_678, k103_679, k103_682, k103_683, k103_686, k103_688, k103_689, k103_692, k103_694, k103_697, k103_698, k103_700, k103_702, k103_705, k103_706, k103_709, k103_711, k103_712, k103_715, k103_717, k103_720, k103_722, k103_723, k103_726, k103_729, k103_732, k103_734, k103_735, k103_738, k103_740, k103_743, k103_745, k103_746, k103_749, k103_752, k103_755, k103_757, rf_s, pushR_s, pushR_n, le4_0, le4_1, le4_2, le4_3, le4_4, isLong_n, isLong_i, isLong_r, isLong_f, if_true, if_false, not_true_eq_false, not_false_eq_true, isI_0, isI_9, isAr_0, isAr_1, isAr_2, isAr_9, okR_i, okR_0, okR_1, putI_0, putI_b0, putI_b1, nI_10, nI_00, Nat.reduceLT, Nat.reduceLeDiff, nI_add, upM_s, upI_s, pk_mul, nf_at, h5, l8', a, nI_z, nI_lit, Nat.reduceEqDiff]
    rfl
  · subst c
    obtain ⟨v, hv, a⟩ := key 102 (by omega) (by omega)
    refine ⟨6, v, by omega, hv, fun Q => ?_⟩
    simp only [k103_596, k103_597, k103_599, k103_602, k103_604, k103_605, k103_606, k103_607, k103_609, k103_612, k103_614, k103_617, k103_619, k103_620, k103_623, k103_625, k103_628, k103_630, k103_631, k103_634, k103_637, k103_640, k103_642, k103_643, k103_646, k103_648, k103_651, k103_653, k103_654, k103_657, k103_660, k103_663, k103_665, k103_668, k103_670, k103_672, k103_673, k103_676, k103_678, k103_679, k103_682, k103_683, k103_686, k103_688, k103_689, k103_692, k103_694, k103_697, k103_698, k103_700, k103_702, k103_705, k103_706, k103_709, k103_711, k103_712, k103_715, k103_717, k103_720, k103_722, k103_723, k103_726, k103_729, k103_732, k103_734, k103_735, k103_738, k103_740, k103_743, k103_745, k103_746, k103_749, k103_752, k103_755, k103_757, rf_s, pushR_s, pushR_n, le4_0, le4_1, le4_2, le4_3, le4_4, isLong_n, isLong_i, isLong_r, isLong_f, if_true, if_false, not_true_eq_false, not_false_eq_true, isI_0, isI_9, isAr_0, isAr_1, isAr_2, isAr_9, okR_i, okR_0, okR_1, putI_0, putI_b0, putI_b1, nI_10, nI_00, Nat.reduceLT, Nat.reduceLeDiff, nI_add, upM_s, upI_s, pk_mul, nf_at, h5, l8', a, nI_z, nI_lit, Nat.reduceEqDiff]
    rfl
  · subst c
    obtain ⟨v, hv, a⟩ := key 102 (by omega) (by omega)
    refine ⟨7, v, by omega, hv, fun Q => ?_⟩
    simp only [k103_596, k103_597, k103_599, k103_602, k103_604, k103_605, k103_606, k103_607, k103_609, k103_612, k103_614, k103_617, k103_619, k103_620, k103_623, k103_625, k103_628, k103_630, k103_631, k103_634, k103_637, k103_640, k103_642, k103_643, k103_646, k103_648, k103_651, k103_653, k103_654, k103_657, k103_660, k103_663, k103_665, k103_668, k103_670, k103_672, k103_673, k103_676, k103_678, k103_679, k103_682, k103_683, k103_686, k103_688, k103_689, k103_692, k103_694, k103_697, k103_698, k103_700, k103_702, k103_705, k103_706, k103_709, k103_711, k103_712, k103_715, k103_717, k103_720, k103_722, k103_723, k103_726, k103_729, k103_732, k103_734, k103_735, k103_738, k103_740, k103_743, k103_745, k103_746, k103_749, k103_752, k103_755, k103_757, rf_s, pushR_s, pushR_n, le4_0, le4_1, le4_2, le4_3, le4_4, isLong_n, isLong_i, isLong_r, isLong_f, if_true, if_false, not_true_eq_false, not_false_eq_true, isI_0, isI_9, isAr_0, isAr_1, isAr_2, isAr_9, okR_i, okR_0, okR_1, putI_0, putI_b0, putI_b1, nI_10, nI_00, Nat.reduceLT, Nat.reduceLeDiff, nI_add, upM_s, upI_s, pk_mul, nf_at, h5, l8', a, nI_z, nI_lit, Nat.reduceEqDiff]
    rfl
theorem ac_se (K : Lw L xs σ M s H n len T B) (y : Int32) (l1 l3 l4 l5 l6 l7 l8 l9 l10 l11 : Option Value) (h5 : isLong l5 = false) : ∃ τ M' s' H' n', (∀ Q, wp 103 596 [some (.ref 0), l1, some (.int y), l3, l4, l5, l6, l7, l8, l9, l10, l11] [] σ M Q = Q (some (.int (nI 1))) τ M') ∧ Lw L xs τ M' s' H' n' len T (B + 400) ∧ Mv s H n s' H' n' := by
  have i := K.inv
  have pj := K.pj
  have t0 := K.t0
  obtain ⟨⟨I, l⟩, _⟩ := id K
  obtain ⟨w, v, hw, hv, a0⟩ := sval y (some (.ref 0)) l1 l3 l4 l5 l6 l7 l8 l9 l10 l11 h5 σ M
  by_cases c : w = 7 ∨ v < sMn w ∨ sMx w < v
  · have o : oSet s (nI w) (nI v) (-1000000001) s := by
      refine Or.inr ⟨?_, rfl, rfl⟩
      by_cases c7 : w = 7
      · refine Or.inl ?_
        rintro ⟨k, k1, k2⟩
        have := (nI_eq (by omega) (by omega)).1 k2
        omega
      · refine Or.inr ⟨w, by omega, rfl, ?_⟩
        rintro ⟨u, u1, u2, u3⟩
        have m := sMx_lt w
        have := (nI_eq (by omega) (by omega)).1 u3
        omega
    obtain ⟨τ, M1, a1, b1⟩ := c8 l o
    have K1 := (K.e b1 pj (by omega)).1 er_1
    refine ⟨τ, M1, s, H, n, fun Q => ?_, K1, Or.inl ⟨rfl, rfl, rfl⟩⟩
    rw [a0]
    by_cases c7 : w = 7
    · have z : (nI w = nI 7) = True := eq_true (congrArg nI c7)
      simp only [k103_759, k103_761, k103_763, k103_766, k103_768, k103_770, k103_773, k103_775, k103_777, k103_780, k103_781, k103_784, k103_785, k103_787, k103_789, k103_792, k103_793, k103_796, k103_797, k103_799, k103_801, k103_802, k103_805, k103_807, k103_808, k103_810, k103_812, k103_815, k103_817, k103_820, k103_822, k103_825, k103_827, k103_830, k103_832, k103_835, k103_836, k103_838, k103_840, k103_841, k103_844, k103_846, k103_849, k103_850, k103_853, k103_854, rf_s, pushR_s, pushR_n, le4_0, le4_1, le4_2, le4_3, le4_4, isLong_n, isLong_i, isLong_r, isLong_f, if_true, if_false, not_true_eq_false, not_false_eq_true, isI_0, isI_9, isAr_0, isAr_1, isAr_2, isAr_9, okR_i, okR_0, okR_1, putI_0, putI_b0, putI_b1, nI_10, nI_00, Nat.reduceLT, Nat.reduceLeDiff, nI_add, upM_s, upI_s, pk_mul, nf_at, t0, a1, z, eq_self]
    · have z : ¬ nI w = nI 7 := ne_n (by omega) (by omega) c7
      have e1 : lst w = sMn w := if_neg c7
      have e2 : mst w = sMx w := if_neg c7
      have m1 := sMn_lt w
      have m2 := sMx_lt w
      rw [e1, e2]
      by_cases cl : v < sMn w
      · have z1 : nI v < nI (sMn w) := nI_lt cl (by omega)
        simp only [k103_759, k103_761, k103_763, k103_766, k103_768, k103_770, k103_773, k103_775, k103_777, k103_780, k103_781, k103_784, k103_785, k103_787, k103_789, k103_792, k103_793, k103_796, k103_797, k103_799, k103_801, k103_802, k103_805, k103_807, k103_808, k103_810, k103_812, k103_815, k103_817, k103_820, k103_822, k103_825, k103_827, k103_830, k103_832, k103_835, k103_836, k103_838, k103_840, k103_841, k103_844, k103_846, k103_849, k103_850, k103_853, k103_854, rf_s, pushR_s, pushR_n, le4_0, le4_1, le4_2, le4_3, le4_4, isLong_n, isLong_i, isLong_r, isLong_f, if_true, if_false, not_true_eq_false, not_false_eq_true, isI_0, isI_9, isAr_0, isAr_1, isAr_2, isAr_9, okR_i, okR_0, okR_1, putI_0, putI_b0, putI_b1, nI_10, nI_00, Nat.reduceLT, Nat.reduceLeDiff, nI_add, upM_s, upI_s, pk_mul, nf_at, t0, a1, z, z1, eq_self]
      · have z1 : ¬ nI v < nI (sMn w) := nI_nlt (by omega) (by omega)
        have z2 : nI (sMx w) < nI v := nI_lt (by omega) (by omega)
        simp only [k103_759, k103_761, k103_763, k103_766, k103_768, k103_770, k103_773, k103_775, k103_777, k103_780, k103_781, k103_784, k103_785, k103_787, k103_789, k103_792, k103_793, k103_796, k103_797, k103_799, k103_801, k103_802, k103_805, k103_807, k103_808, k103_810, k103_812, k103_815, k103_817, k103_820, k103_822, k103_825, k103_827, k103_830, k103_832, k103_835, k103_836, k103_838, k103_840, k103_841, k103_844, k103_846, k103_849, k103_850, k103_853, k103_854, rf_s, pushR_s, pushR_n, le4_0, le4_1, le4_2, le4_3, le4_4, isLong_n, isLong_i, isLong_r, isLong_f, if_true, if_false, not_true_eq_false, not_false_eq_true, isI_0, isI_9, isAr_0, isAr_1, isAr_2, isAr_9, okR_i, okR_0, okR_1, putI_0, putI_b0, putI_b1, nI_10, nI_00, Nat.reduceLT, Nat.reduceLeDiff, nI_add, upM_s, upI_s, pk_mul, nf_at, t0, a1, z, z1, z2, eq_self]
  · have c7 : w ≠ 7 := by omega
    have z : ¬ nI w = nI 7 := ne_n (by omega) (by omega) c7
    have e1 : lst w = sMn w := if_neg c7
    have e2 : mst w = sMx w := if_neg c7
    have m1 := sMn_lt w
    have m2 := sMx_lt w
    have z1 : ¬ nI v < nI (sMn w) := nI_nlt (by omega) (by omega)
    have z2 : ¬ nI (sMx w) < nI v := nI_nlt (by omega) (by omega)
    have o : oSet s (nI w) (nI v) (nI (s (13 + w))) (gSet s w v) := Or.inl ⟨w, v, rfl, by omega, rfl, by omega, by omega, rfl, rfl⟩
    obtain ⟨τ, M1, a1, b1⟩ := c8 l o
    have sv : s (13 + w) < 2 ^ 31 := by
      have q := i.2.1
      unfold sOk at q
      rcases (show w = 0 ∨ w = 1 ∨ w = 2 ∨ w = 3 ∨ w = 4 ∨ w = 5 ∨ w = 6 by omega) with c | c | c | c | c | c | c <;> subst c <;> simp only [Nat.reduceAdd] <;> omega
    have K1 := (K.e b1 (oSet_p i pj o) (by unfold gSet; rw [upN_n (by omega)]; omega)).2 (nr_nI sv)
    have t1 := K1.t0
    have d1 := cnt_s K (k := w) (by omega)
    have d2 := cnt_s K1 (k := w) (by omega)
    rw [show gSet s w v (13 + w) = v from upN_s] at d2
    refine ⟨τ, M1, gSet s w v, pH H n s, pN n, fun Q => ?_, K1, Or.inr ⟨rfl, rfl⟩⟩
    rw [a0, e1, e2]
    simp only [k103_759, k103_761, k103_763, k103_766, k103_768, k103_770, k103_773, k103_775, k103_777, k103_780, k103_781, k103_784, k103_785, k103_787, k103_789, k103_792, k103_793, k103_796, k103_797, k103_799, k103_801, k103_802, k103_805, k103_807, k103_808, k103_810, k103_812, k103_815, k103_817, k103_820, k103_822, k103_825, k103_827, k103_830, k103_832, k103_835, k103_836, k103_838, k103_840, k103_841, k103_844, k103_846, k103_849, k103_850, k103_853, k103_854, rf_s, pushR_s, pushR_n, le4_0, le4_1, le4_2, le4_3, le4_4, isLong_n, isLong_i, isLong_r, isLong_f, if_true, if_false, not_true_eq_false, not_false_eq_true, isI_0, isI_9, isAr_0, isAr_1, isAr_2, isAr_9, okR_i, okR_0, okR_1, putI_0, putI_b0, putI_b1, nI_10, nI_00, Nat.reduceLT, Nat.reduceLeDiff, nI_add, upM_s, upI_s, pk_mul, nf_at, t0, t1, a1, d1, d2, z, z1, z2, eq_self]
theorem l103 (K : Lw L xs σ M s H n len T B) (x y : Int32) : ∃ τ M' s' H' n' len' T', (∀ Q, wp 103 0 [some (.ref 0), some (.int x), some (.int y), none, none, none, none, none, none, none, none, none] [] σ M Q = Q (some (.int (nI 1))) τ M') ∧ Lw L xs τ M' s' H' n' len' T' (B + 400) ∧ Mv s H n s' H' n' := by
  have t0 := K.t0
  have l20 := fun Q => l95 (v := x) (m := 20) (by omega) (by omega) (σ := σ) (M := M) Q
  have b20 := lw_lt (v := x) (m := 20) (by omega)
  generalize lw x 20 = h at *
  have a0 : ∀ Q, wp 103 0 [some (.ref 0), some (.int x), some (.int y), none, none, none, none, none, none, none, none, none] [] σ M Q = wp 103 21 [some (.ref 0), some (.int x), some (.int y), some (.int (nI h)), some (.int (nI (s 0))), some (.int (nI (s 1))), none, none, none, none, none, none] [] σ M Q := fun Q => by
    simp only [k103_0, k103_1, k103_3, k103_6, k103_7, k103_8, k103_9, k103_12, k103_14, k103_15, k103_16, k103_19, rf_s, pushR_s, pushR_n, le4_0, le4_1, le4_2, le4_3, le4_4, isLong_n, isLong_i, isLong_r, isLong_f, if_true, if_false, not_true_eq_false, not_false_eq_true, isI_0, isI_9, isAr_0, isAr_1, isAr_2, isAr_9, okR_i, okR_0, okR_1, putI_0, putI_b0, putI_b1, nI_10, nI_00, Nat.reduceLT, Nat.reduceLeDiff, nI_add, upM_s, upI_s, pk_mul, nf_at, t0, l20, cnt_0 K, cnt_1 K]
  by_cases c1 : h < 2
  · have y1 : nI h < nI 2 := nI_lt c1 (by omega)
    obtain ⟨τ, M', s', H', n', a, K', m⟩ := ac_pl K (some (.int x)) (some (.int y)) (some (.int (nI h))) (some (.int (nI (s 1)))) none none none none none none
    refine ⟨τ, M', s', H', n', len, T, fun Q => ?_, K', m⟩
    refine Eq.trans ?_ (a Q)
    rw [a0]
    simp only [k103_21, k103_22, k103_23, rf_s, pushR_s, pushR_n, le4_0, le4_1, le4_2, le4_3, le4_4, isLong_n, isLong_i, isLong_r, isLong_f, if_true, if_false, not_true_eq_false, not_false_eq_true, isI_0, isI_9, isAr_0, isAr_1, isAr_2, isAr_9, okR_i, okR_0, okR_1, putI_0, putI_b0, putI_b1, nI_10, nI_00, Nat.reduceLT, Nat.reduceLeDiff, nI_add, upM_s, upI_s, pk_mul, nf_at, y1]
  have y1 : ¬ nI h < nI 2 := nI_nlt (by omega) (by omega)
  by_cases c2 : h < 7
  · have y2 : nI h < nI 7 := nI_lt c2 (by omega)
    obtain ⟨τ, M', s', H', n', a, K', m⟩ := ac_pa K y (some (.int x)) (some (.int (nI h))) none none none none none none
    refine ⟨τ, M', s', H', n', len, T, fun Q => ?_, K', m⟩
    refine Eq.trans ?_ (a Q)
    rw [a0]
    simp only [k103_21, k103_22, k103_23, k103_53, k103_54, k103_56, rf_s, pushR_s, pushR_n, le4_0, le4_1, le4_2, le4_3, le4_4, isLong_n, isLong_i, isLong_r, isLong_f, if_true, if_false, not_true_eq_false, not_false_eq_true, isI_0, isI_9, isAr_0, isAr_1, isAr_2, isAr_9, okR_i, okR_0, okR_1, putI_0, putI_b0, putI_b1, nI_10, nI_00, Nat.reduceLT, Nat.reduceLeDiff, nI_add, upM_s, upI_s, pk_mul, nf_at, y1, y2]
  have y2 : ¬ nI h < nI 7 := nI_nlt (by omega) (by omega)
  by_cases c3 : h < 10
  · have y3 : nI h < nI 10 := nI_lt c3 (by omega)
    obtain ⟨τ, M', s', H', n', a, K', m⟩ := ac_cl K y (some (.int x)) (some (.int (nI h))) (some (.int (nI (s 0)))) none none none none none none
    refine ⟨τ, M', s', H', n', len, T, fun Q => ?_, K', m⟩
    refine Eq.trans ?_ (a Q)
    rw [a0]
    simp only [k103_21, k103_22, k103_23, k103_53, k103_54, k103_56, k103_253, k103_254, k103_256, rf_s, pushR_s, pushR_n, le4_0, le4_1, le4_2, le4_3, le4_4, isLong_n, isLong_i, isLong_r, isLong_f, if_true, if_false, not_true_eq_false, not_false_eq_true, isI_0, isI_9, isAr_0, isAr_1, isAr_2, isAr_9, okR_i, okR_0, okR_1, putI_0, putI_b0, putI_b1, nI_10, nI_00, Nat.reduceLT, Nat.reduceLeDiff, nI_add, upM_s, upI_s, pk_mul, nf_at, y1, y2, y3]
  have y3 : ¬ nI h < nI 10 := nI_nlt (by omega) (by omega)
  by_cases c4 : h = 10
  · have y4 : (nI h = nI 10) = True := eq_true (congrArg nI c4)
    obtain ⟨τ, M', s', H', n', a, K', m⟩ := ac_fo K y (some (.int x)) (some (.int (nI h))) (some (.int (nI (s 1)))) none none none none none none rfl
    refine ⟨τ, M', s', H', n', len, T, fun Q => ?_, K', m⟩
    refine Eq.trans ?_ (a Q)
    rw [a0]
    simp only [k103_21, k103_22, k103_23, k103_53, k103_54, k103_56, k103_253, k103_254, k103_256, k103_422, k103_423, k103_425, rf_s, pushR_s, pushR_n, le4_0, le4_1, le4_2, le4_3, le4_4, isLong_n, isLong_i, isLong_r, isLong_f, if_true, if_false, not_true_eq_false, not_false_eq_true, isI_0, isI_9, isAr_0, isAr_1, isAr_2, isAr_9, okR_i, okR_0, okR_1, putI_0, putI_b0, putI_b1, nI_10, nI_00, Nat.reduceLT, Nat.reduceLeDiff, nI_add, upM_s, upI_s, pk_mul, nf_at, y1, y2, y3, y4]
  have y4 : ¬ nI h = nI 10 := ne_n (by omega) (by omega) c4
  by_cases c5 : h = 11
  · have y5 : (nI h = nI 11) = True := eq_true (congrArg nI c5)
    obtain ⟨τ, M', s', H', n', a, K', m⟩ := ac_fg K (some (.int x)) (some (.int y)) (some (.int (nI h))) (some (.int (nI (s 0)))) none none none none none none
    refine ⟨τ, M', s', H', n', len, T, fun Q => ?_, K', m⟩
    refine Eq.trans ?_ (a Q)
    rw [a0]
    simp only [k103_21, k103_22, k103_23, k103_53, k103_54, k103_56, k103_253, k103_254, k103_256, k103_422, k103_423, k103_425, k103_522, k103_523, k103_525, rf_s, pushR_s, pushR_n, le4_0, le4_1, le4_2, le4_3, le4_4, isLong_n, isLong_i, isLong_r, isLong_f, if_true, if_false, not_true_eq_false, not_false_eq_true, isI_0, isI_9, isAr_0, isAr_1, isAr_2, isAr_9, okR_i, okR_0, okR_1, putI_0, putI_b0, putI_b1, nI_10, nI_00, Nat.reduceLT, Nat.reduceLeDiff, nI_add, upM_s, upI_s, pk_mul, nf_at, y1, y2, y3, y4, y5]
  have y5 : ¬ nI h = nI 11 := ne_n (by omega) (by omega) c5
  by_cases c6 : h = 12
  · have y6 : (nI h = nI 12) = True := eq_true (congrArg nI c6)
    obtain ⟨τ, M', s', H', n', a, K', m⟩ := ac_se K y (some (.int x)) (some (.int (nI h))) (some (.int (nI (s 0)))) (some (.int (nI (s 1)))) none none none none none none rfl
    refine ⟨τ, M', s', H', n', len, T, fun Q => ?_, K', m⟩
    refine Eq.trans ?_ (a Q)
    rw [a0]
    simp only [k103_21, k103_22, k103_23, k103_53, k103_54, k103_56, k103_253, k103_254, k103_256, k103_422, k103_423, k103_425, k103_522, k103_523, k103_525, k103_590, k103_591, k103_593, rf_s, pushR_s, pushR_n, le4_0, le4_1, le4_2, le4_3, le4_4, isLong_n, isLong_i, isLong_r, isLong_f, if_true, if_false, not_true_eq_false, not_false_eq_true, isI_0, isI_9, isAr_0, isAr_1, isAr_2, isAr_9, okR_i, okR_0, okR_1, putI_0, putI_b0, putI_b1, nI_10, nI_00, Nat.reduceLT, Nat.reduceLeDiff, nI_add, upM_s, upI_s, pk_mul, nf_at, y1, y2, y3, y4, y5, y6]
  have y6 : ¬ nI h = nI 12 := ne_n (by omega) (by omega) c6
  by_cases c7 : h < 17
  · have y7 : nI h < nI 17 := nI_lt c7 (by omega)
    obtain ⟨τ, M', s', H', n', a, K', m⟩ := l102 K y
    refine ⟨τ, M', s', H', n', len, T, fun Q => ?_, K', m⟩
    rw [a0]
    simp only [k103_21, k103_22, k103_23, k103_53, k103_54, k103_56, k103_253, k103_254, k103_256, k103_422, k103_423, k103_425, k103_522, k103_523, k103_525, k103_590, k103_591, k103_593, k103_855, k103_856, k103_858, k103_861, k103_862, k103_863, k103_866, rf_s, pushR_s, pushR_n, le4_0, le4_1, le4_2, le4_3, le4_4, isLong_n, isLong_i, isLong_r, isLong_f, if_true, if_false, not_true_eq_false, not_false_eq_true, isI_0, isI_9, isAr_0, isAr_1, isAr_2, isAr_9, okR_i, okR_0, okR_1, putI_0, putI_b0, putI_b1, nI_10, nI_00, Nat.reduceLT, Nat.reduceLeDiff, nI_add, upM_s, upI_s, pk_mul, nf_at, y1, y2, y3, y4, y5, y6, y7, a]
  · have y7 : ¬ nI h < nI 17 := nI_nlt (by omega) (by omega)
    obtain ⟨M1, len1, T1, a1, K1⟩ := l100 K y
    obtain ⟨τ, M', s', H', n', a, K', m⟩ := l101 K1
    refine ⟨τ, M', s', H', n', len1, T1, fun Q => ?_, K', m⟩
    rw [a0]
    simp only [k103_21, k103_22, k103_23, k103_53, k103_54, k103_56, k103_253, k103_254, k103_256, k103_422, k103_423, k103_425, k103_522, k103_523, k103_525, k103_590, k103_591, k103_593, k103_855, k103_856, k103_858, k103_867, k103_868, k103_869, k103_872, k103_875, k103_876, k103_879, k103_882, k103_883, k103_886, k103_887, rf_s, pushR_s, pushR_n, le4_0, le4_1, le4_2, le4_3, le4_4, isLong_n, isLong_i, isLong_r, isLong_f, if_true, if_false, not_true_eq_false, not_false_eq_true, isI_0, isI_9, isAr_0, isAr_1, isAr_2, isAr_9, okR_i, okR_0, okR_1, putI_0, putI_b0, putI_b1, nI_10, nI_00, Nat.reduceLT, Nat.reduceLeDiff, nI_add, upM_s, upI_s, pk_mul, nf_at, y1, y2, y3, y4, y5, y6, y7, a1, a]
end ACS
