/-! both sides, call by call -/
section PAIR
variable {σ : Sg} {M : Mem} {I : Nat → Nat} {s s' : Nat → Nat} {H : Nat → Nat → Nat} {n len : Nat} {T : Nat → Nat} {r : Int32}
theorem RfL_f (h : RfL M s H n len T) {N : Mem} (f : ∀ o, 106 ≤ o → N o = M o) : RfL N s H n len T := by
  obtain ⟨h1, h2, h3, h4, h5⟩ := h
  refine ⟨by rw [f 107 (by omega)]; exact h1, by rw [f 106 (by omega)]; exact h2, fun i j hi hj => by rw [f 110 (by omega)]; exact h3 i j hi hj, by rw [f 106 (by omega)]; exact h4, fun j hj => by rw [f 111 (by omega)]; exact h5 j hj⟩
theorem ClL_f (L : ClL σ M I s H n len T) {N : Mem} (f : ∀ o, o < 106 ∨ 116 < o → N o = M o) : ClL σ N I s H n len T := by
  obtain ⟨V, v⟩ := L.2.2.2.2.2.2.2.2.1
  obtain ⟨U, u⟩ := L.2.2.2.2.2.2.2.2.2
  have q : ∀ o, o < 14 ∨ 26 < o ∧ o < 95 ∨ 102 < o → N o = (fun o => if 106 ≤ o ∧ o ≤ 116 then N o else M o) o := fun o _ => by
    show N o = if 106 ≤ o ∧ o ≤ 116 then N o else M o
    by_cases c : 106 ≤ o ∧ o ≤ 116
    · rw [if_pos c]
    · rw [if_neg c]; exact f o (by omega)
  obtain ⟨hk, hh, hc, R, i, ⟨h1, hn⟩, hH, hT, _, _⟩ := L
  refine ⟨hk, hh, IsC_fr hc (f 1001 (by omega)) (f 1002 (by omega)), RG_o R i.1.2.2.2.2.2 (fun o h1 h2 => f o (by omega)), i, ⟨by rw [f 27 (by omega)]; exact h1, hn⟩, fun j hj => ?_, ⟨by rw [f 103 (by omega)]; exact hT.1, fun j hj => by rw [f 104 (by omega)]; exact hT.2 j hj⟩, ⟨V, RW_fr v (f 95 (by omega)) (f (95 + 1) (by omega))⟩, ⟨U, RW_fr u (f 101 (by omega)) (f (101 + 1) (by omega))⟩⟩
  obtain ⟨a, b, c⟩ := hH j hj
  have q := ih_g hh j (by omega)
  exact ⟨RG_o a b.2.2.2.2.2 (fun o h1 h2 => f o (by omega)), b, c⟩
theorem ClL_e (L : ClL σ M I s H n len T) {t : Nat → Nat} (e : e146 s t) : ClL σ M I t H n len T := by
  obtain ⟨hk, hh, hc, R, i, h1, hH, hT, h95, h101⟩ := L
  exact ⟨hk, hh, hc, RG_e R i.1.2.2.2.2.2 e (fun _ _ _ => rfl), ⟨Inv_e e i.1, Ex_e e i.2⟩, h1, hH, hT, h95, h101⟩
/-- the two hold the same -/
def St (σ : Sg) (M : Mem) : Prop := ∃ I s H n len T, ClL σ M I s H n len T ∧ RfL M s H n len T ∧ len ≤ 60 ∧ ∀ j, j < len → T j ≤ 126
/-- a call of the class, and the same of the reference, answer alike -/
def Pair (σ : Sg) (M : Mem) (j : Nat) (ls : Lcl) (k : Nat) (ls2 : Lcl) : Prop := ∃ r τ M1 M2, (∀ Q, wp j 0 ls [] σ M Q = Q (some (.int r)) τ M1) ∧ (∀ Q, wp k 0 ls2 [] τ M1 Q = Q (some (.int r)) τ M2) ∧ St τ M2 ∧ Sm σ τ ∧ M1 1003 = M 1003 ∧ M2 1003 = M 1003
theorem pr_c (hm : IsM σ) (F : RfL M s H n len T) (hn : n ≤ 4) (hl : len ≤ 60) (hT : ∀ j, j < len → T j ≤ 126) (hr : er r ∨ nr r) {τ : Sg} {M1 : Mem} {j k : Nat} {ls ls2 : Lcl} (a1 : ∀ Q, wp j 0 ls [] σ M Q = Q (some (.int r)) τ M1) (a2 : CC σ M τ M1 s s' H n len T r) (b : IsM τ → RfL M1 s H n len T → ∃ M2, (∀ Q, wp k 0 ls2 [] τ M1 Q = Q (some (.int r)) τ M2) ∧ RC M1 M2 s s' H n len T r) : Pair σ M j ls k ls2 := by
  obtain ⟨c1, c2, c3, c4⟩ := a2
  obtain ⟨M2, b1, b2⟩ := b (IsM_sm c3 hm) (RfL_f F c4)
  refine ⟨r, τ, M1, M2, a1, b1, ?_, c3, c4 1003 (by omega), by rw [b2.2.2 1003 (by omega), c4 1003 (by omega)]⟩
  rcases hr with hr | hr
  · obtain ⟨I, d⟩ := c1 hr
    obtain ⟨t, e, f⟩ := b2.1 hr
    exact ⟨I, t, H, n, len, T, ClL_e (ClL_f d b2.2.2) e, f, hl, hT⟩
  · obtain ⟨I, d⟩ := c2 hr
    exact ⟨I, s', _, _, len, T, ClL_f d b2.2.2, b2.2.1 hr, hl, hT⟩
theorem pr_q (F : RfL M s H n len T) (hl : len ≤ 60) (hT : ∀ j, j < len → T j ≤ 126) {M1 : Mem} {j k : Nat} {ls ls2 : Lcl} (a1 : ∀ Q, wp j 0 ls [] σ M Q = Q (some (.int r)) σ M1) (a2 : QC σ M M1 I s H n len T) (b : RfL M1 s H n len T → ∃ M2, (∀ Q, wp k 0 ls2 [] σ M1 Q = Q (some (.int r)) σ M2) ∧ RQ M1 M2 s) : Pair σ M j ls k ls2 := by
  obtain ⟨c1, c4⟩ := a2
  have F1 := RfL_f F c4
  obtain ⟨M2, b1, b2⟩ := b F1
  obtain ⟨t, e, f⟩ := RfL_q F1 b2
  refine ⟨r, σ, M1, M2, a1, b1, ⟨I, t, H, n, len, T, ClL_e (ClL_f c1 (fun o ho => b2.2.1 o (by omega))) e, f, hl, hT⟩, Sm_r, c4 1003 (by omega), by rw [b2.2.1 1003 (by omega), c4 1003 (by omega)]⟩
end PAIR
theorem p_0 {σ : Sg} {M : Mem} (hm : IsM σ) (h : St σ M) : Pair σ M 2 [some (.ref 0)] 126 [some (.ref 106)] := by
  obtain ⟨I, s, H, n, len, T, L, F, hl, hT⟩ := h
  have i := L.2.2.2.2.1.1
  have n4 := L.2.2.2.2.2.1.2
  obtain ⟨r, s', o⟩ := oPlace_ex i
  obtain ⟨τ, M1, a1, a2⟩ := c2 L o
  exact pr_c hm F n4 hl hT ((oPlace_inv i o).2.elim (fun q => Or.inl q.1) Or.inr) a1 a2 (fun hm F1 => m126 hm F1 n4 i o)
theorem p_1 {σ : Sg} {M : Mem} (hm : IsM σ) (h : St σ M) (x y z : Int32) : Pair σ M 3 [some (.ref 0), some (.int x), some (.int y), some (.int z)] 127 [some (.ref 106), some (.int x), some (.int y), some (.int z)] := by
  obtain ⟨I, s, H, n, len, T, L, F, hl, hT⟩ := h
  have i := L.2.2.2.2.1.1
  have n4 := L.2.2.2.2.2.1.2
  obtain ⟨r, s', o⟩ := oPath_ex i x y z
  obtain ⟨τ, M1, a1, a2⟩ := c3 L o
  exact pr_c hm F n4 hl hT ((oPath_inv i o).2.elim (fun q => Or.inl q.1) Or.inr) a1 a2 (fun hm F1 => m127 hm F1 n4 i o)
theorem p_2 {σ : Sg} {M : Mem} (hm : IsM σ) (h : St σ M) (x : Int32) {c : Nat} (hc : c ≤ 1) : Pair σ M 4 [some (.ref 0), some (.int x), some (.int (nI c))] 128 [some (.ref 106), some (.int x), some (.int (nI c))] := by
  obtain ⟨I, s, H, n, len, T, L, F, hl, hT⟩ := h
  have i := L.2.2.2.2.1.1
  have n4 := L.2.2.2.2.2.1.2
  obtain ⟨r, s', o⟩ := oClose_ex (s := s) x c
  obtain ⟨τ, M1, a1, a2⟩ := c4 L hc o
  exact pr_c hm F n4 hl hT ((oClose_inv i hc o).2.elim (fun q => Or.inl q.1) Or.inr) a1 a2 (fun hm F1 => m128 hm F1 n4 i hc o)
theorem p_3 {σ : Sg} {M : Mem} (hm : IsM σ) (h : St σ M) (x : Int32) : Pair σ M 5 [some (.ref 0), some (.int x)] 129 [some (.ref 106), some (.int x)] := by
  obtain ⟨I, s, H, n, len, T, L, F, hl, hT⟩ := h
  have i := L.2.2.2.2.1.1
  have n4 := L.2.2.2.2.2.1.2
  obtain ⟨r, s', o⟩ := oFood_ex (s := s) x
  obtain ⟨τ, M1, a1, a2⟩ := c5 L o
  exact pr_c hm F n4 hl hT ((oFood_inv i o).2.elim (fun q => Or.inl q.1) Or.inr) a1 a2 (fun hm F1 => m129 hm F1 n4 i o)
theorem p_4 {σ : Sg} {M : Mem} (hm : IsM σ) (h : St σ M) (x : Int32) : Pair σ M 6 [some (.ref 0), some (.int x)] 130 [some (.ref 106), some (.int x)] := by
  obtain ⟨I, s, H, n, len, T, L, F, hl, hT⟩ := h
  have i := L.2.2.2.2.1.1
  have n4 := L.2.2.2.2.2.1.2
  obtain ⟨r, s', o⟩ := oLap_ex (s := s) x
  obtain ⟨τ, M1, a1, a2⟩ := c6 L o
  exact pr_c hm F n4 hl hT ((oLap_inv i o).2.elim (fun q => Or.inl q.1) Or.inr) a1 a2 (fun hm F1 => m130 hm F1 n4 i o)
theorem p_5 {σ : Sg} {M : Mem} (hm : IsM σ) (h : St σ M) : Pair σ M 7 [some (.ref 0)] 131 [some (.ref 106), none, none] := by
  obtain ⟨I, s, H, n, len, T, L, F, hl, hT⟩ := h
  have i := L.2.2.2.2.1.1
  have n4 := L.2.2.2.2.2.1.2
  obtain ⟨r, s', o⟩ := (⟨_, _, rfl, rfl⟩ : ∃ r s1, oForget s r s1)
  obtain ⟨τ, M1, a1, a2⟩ := c7 L o
  exact pr_c hm F n4 hl hT (Or.inr (oForget_inv i o).2.1) a1 a2 (fun hm F1 => m131 hm F1 n4 i o)
theorem p_6 {σ : Sg} {M : Mem} (hm : IsM σ) (h : St σ M) (x y : Int32) : Pair σ M 8 [some (.ref 0), some (.int x), some (.int y)] 132 [some (.ref 106), some (.int x), some (.int y)] := by
  obtain ⟨I, s, H, n, len, T, L, F, hl, hT⟩ := h
  have i := L.2.2.2.2.1.1
  have n4 := L.2.2.2.2.2.1.2
  obtain ⟨r, s', o⟩ := oSet_ex (s := s) x y
  obtain ⟨τ, M1, a1, a2⟩ := c8 L o
  exact pr_c hm F n4 hl hT ((oSet_inv i o).2.elim (fun q => Or.inl q.1) Or.inr) a1 a2 (fun hm F1 => m132 hm F1 n4 i o)
theorem p_21 {σ : Sg} {M : Mem} (hm : IsM σ) (h : St σ M) : Pair σ M 23 [some (.ref 0), none] 159 [some (.ref 106)] := by
  obtain ⟨I, s, H, n, len, T, L, F, hl, hT⟩ := h
  have i := L.2.2.2.2.1.1
  have n4 := L.2.2.2.2.2.1.2
  obtain ⟨r, s', o⟩ := oPlay_ex (T := T) i hl
  obtain ⟨τ, M1, a1, a2⟩ := c23 L hl hT o
  exact pr_c hm F n4 hl hT ((oPlay_inv i o).2) a1 a2 (fun hm F1 => m159 hm F1 n4 hl hT i o)
theorem p_7 {σ : Sg} {M : Mem} (hm : IsM σ) (h : St σ M) (x y : Int32) : Pair σ M 9 [some (.ref 0), some (.int x), some (.int y)] 134 [some (.ref 106), some (.int x), some (.int y)] := by
  obtain ⟨I, s, H, n, len, T, L, F, hl, hT⟩ := h
  have i := L.2.2.2.2.1.1
  obtain ⟨r, o⟩ := rPathOf_ex (s := s) x y
  have a1 := fun Q => c9 L o Q
  exact pr_q F hl hT a1 (QC_r L) (fun F1 => ⟨_, fun Q => m134 hm F1.1 i o Q, RQ_r F1.1⟩)
theorem p_8 {σ : Sg} {M : Mem} (hm : IsM σ) (h : St σ M) (x y : Int32) : Pair σ M 10 [some (.ref 0), some (.int x), some (.int y)] 136 [some (.ref 106), some (.int x), some (.int y)] := by
  obtain ⟨I, s, H, n, len, T, L, F, hl, hT⟩ := h
  have i := L.2.2.2.2.1.1
  obtain ⟨r, o⟩ := rPlaceOf_ex (s := s) x y
  obtain ⟨M1, a1, a2⟩ := c10 L o
  exact pr_q F hl hT a1 a2 (fun F1 => m136 hm F1.1 i o)
theorem p_9 {σ : Sg} {M : Mem} (hm : IsM σ) (h : St σ M) (x : Int32) : Pair σ M 11 [some (.ref 0), some (.int x)] 137 [some (.ref 106), some (.int x)] := by
  obtain ⟨I, s, H, n, len, T, L, F, hl, hT⟩ := h
  have i := L.2.2.2.2.1.1
  obtain ⟨r, o⟩ := rBest_ex (s := s) x
  have a1 := fun Q => c11 L o Q
  exact pr_q F hl hT a1 (QC_r L) (fun F1 => ⟨_, fun Q => m137 hm F1.1 i o Q, RQ_r F1.1⟩)
theorem p_10 {σ : Sg} {M : Mem} (hm : IsM σ) (h : St σ M) (x : Int32) : Pair σ M 12 [some (.ref 0), some (.int x)] 138 [some (.ref 106), some (.int x)] := by
  obtain ⟨I, s, H, n, len, T, L, F, hl, hT⟩ := h
  have i := L.2.2.2.2.1.1
  obtain ⟨r, o⟩ := rBestAt_ex i x
  have a1 := fun Q => c12 L o Q
  exact pr_q F hl hT a1 (QC_r L) (fun F1 => ⟨_, fun Q => m138 hm F1.1 i o Q, RQ_r F1.1⟩)
theorem p_11 {σ : Sg} {M : Mem} (hm : IsM σ) (h : St σ M) (x y : Int32) : Pair σ M 13 [some (.ref 0), some (.int x), some (.int y), none] 139 [some (.ref 106), some (.int x), some (.int y), none, none] := by
  obtain ⟨I, s, H, n, len, T, L, F, hl, hT⟩ := h
  have i := L.2.2.2.2.1.1
  obtain ⟨r, o⟩ := rChance_ex i.1 x y
  have a1 := fun Q => c13 L o Q
  exact pr_q F hl hT a1 (QC_r L) (fun F1 => ⟨_, fun Q => m139 hm F1.1 i o Q, RQ_r F1.1⟩)
theorem gr_q {σ : Sg} {M : Mem} (hm : IsM σ) {s : Nat → Nat} (hs : M 107 = nf s) (i : Inv s) {x r : Int32} (o : rGreedy s x r) : ∃ M' : Mem, (∀ Q, wp 142 0 [some (.ref 106), some (.int x), none, none] [] σ M Q = Q (some (.int r)) σ M') ∧ RQ M M' s := by
  obtain ⟨M', a1, a2, a3⟩ := m142 hm hs i o
  exact ⟨M', a1, ⟨s, fun _ _ => rfl, by rw [a2 107 (by decide) (by decide)]; exact hs⟩, fun o ho => a2 o (by omega) (by omega), a3 4 (by omega), a3 6 (by omega)⟩
theorem p_12 {σ : Sg} {M : Mem} (hm : IsM σ) (h : St σ M) (x : Int32) : Pair σ M 14 [some (.ref 0), some (.int x)] 142 [some (.ref 106), some (.int x), none, none] := by
  obtain ⟨I, s, H, n, len, T, L, F, hl, hT⟩ := h
  have i := L.2.2.2.2.1.1
  obtain ⟨r, o⟩ := rGreedy_ex (s := s) x
  obtain ⟨M1, a1, a2⟩ := c14 L o
  exact pr_q F hl hT a1 a2 (fun F1 => gr_q hm F1.1 i o)
theorem p_13 {σ : Sg} {M : Mem} (hm : IsM σ) (h : St σ M) : Pair σ M 15 [some (.ref 0), none] 143 [some (.ref 106), none] := by
  obtain ⟨I, s, H, n, len, T, L, F, hl, hT⟩ := h
  have i := L.2.2.2.2.1.1
  obtain ⟨r, o⟩ := rOver_ex (s := s)
  obtain ⟨M1, a1, a2⟩ := c15 L o
  exact pr_q F hl hT a1 a2 (fun F1 => m143 hm F1.1 i o)
theorem p_14 {σ : Sg} {M : Mem} (hm : IsM σ) (h : St σ M) (x : Int32) : Pair σ M 16 [some (.ref 0), some (.int x), none] 144 [some (.ref 106), some (.int x)] := by
  obtain ⟨I, s, H, n, len, T, L, F, hl, hT⟩ := h
  have i := L.2.2.2.2.1.1
  obtain ⟨r, o⟩ := rAnt_ex (s := s) x
  obtain ⟨M1, a1, a2⟩ := c16 L o
  exact pr_q F hl hT a1 a2 (fun F1 => m144 hm F1.1 i o)
theorem p_15 {σ : Sg} {M : Mem} (hm : IsM σ) (h : St σ M) (x y : Int32) : Pair σ M 17 [some (.ref 0), some (.int x), some (.int y), none] 145 [some (.ref 106), some (.int x), some (.int y), none] := by
  obtain ⟨I, s, H, n, len, T, L, F, hl, hT⟩ := h
  have i := L.2.2.2.2.1.1
  obtain ⟨r, o⟩ := rWould_ex (s := s) x y
  obtain ⟨M1, a1, a2⟩ := c17 L o
  exact pr_q F hl hT a1 a2 (fun F1 => m145 hm F1.1 i o)
theorem p_16 {σ : Sg} {M : Mem} (hm : IsM σ) (h : St σ M) (x : Int32) : Pair σ M 18 [some (.ref 0), some (.int x)] 147 [some (.ref 106), some (.int x)] := by
  obtain ⟨I, s, H, n, len, T, L, F, hl, hT⟩ := h
  have i := L.2.2.2.2.1.1
  obtain ⟨r, o⟩ := rCount_ex (s := s) (n := n) (len := len) x
  have a1 := fun Q => c18 L o Q
  exact pr_q F hl hT a1 (QC_r L) (fun F1 => ⟨_, fun Q => m147 hm F1.1 i F1.2.1 F1.2.2.2.1 o Q, RQ_r F1.1⟩)
theorem p_20 {σ : Sg} {M : Mem} (hm : IsM σ) (h : St σ M) (x : Int32) : Pair σ M 22 [some (.ref 0), some (.int x)] 158 [some (.ref 106), some (.int x), none] := by
  obtain ⟨I, s, H, n, len, T, L, F, hl, hT⟩ := h
  have i := L.2.2.2.2.1.1
  obtain ⟨r, o⟩ := rFault_ex (T := T) i hl x
  obtain ⟨M1, a1, a2⟩ := c22 L hl hT o
  exact pr_q F hl hT a1 a2 (fun F1 => m158 hm F1 hl hT i o)
theorem p_17 {σ : Sg} {M : Mem} (hm : IsM σ) (h : St σ M) : Pair σ M 19 [some (.ref 0)] 148 [some (.ref 106), none] := by
  obtain ⟨I, s, H, n, len, T, L, F, hl, hT⟩ := h
  have n4 := L.2.2.2.2.2.1.2
  obtain ⟨r, o⟩ : ∃ r, rUndo n r := by
    by_cases c : n = 0
    · exact ⟨_, Or.inl ⟨c, rfl⟩⟩
    · exact ⟨_, Or.inr ⟨c, rfl⟩⟩
  obtain ⟨M1, a1, a2, a3, a4⟩ := c19 L o
  obtain ⟨M2, b1, b2, b3, b4⟩ := m148 hm (RfL_f F a4) n4 o
  refine ⟨r, σ, M1, M2, a1, b1, ?_, Sm_r, a4 1003 (by omega), by rw [b4 1003 (by omega), a4 1003 (by omega)]⟩
  by_cases c : n = 0
  · rw [b2 c]
    exact ⟨I, s, H, n, len, T, a2 c, RfL_f F a4, hl, hT⟩
  · obtain ⟨t, e, f⟩ := b3 c
    exact ⟨I, t, H, n - 1, len, T, ClL_e (ClL_f (a3 c) b4) e, f, hl, hT⟩
theorem p_18 {σ : Sg} {M : Mem} (hm : IsM σ) (h : St σ M) (x : Int32) : Pair σ M 20 [some (.ref 0), some (.int x)] 149 [some (.ref 106), some (.int x)] := by
  obtain ⟨I, s, H, n, len, T, L, F, hl, hT⟩ := h
  obtain ⟨r, o⟩ := rType_ex (len := len) hl x
  obtain ⟨M1, a1, a2, a3, a4⟩ := c20 L hl o
  obtain ⟨M2, b1, b2, b3, b4⟩ := m149 hm (RfL_f F a4) hl o
  refine ⟨r, σ, M1, M2, a1, b1, ?_, Sm_r, a4 1003 (by omega), by rw [b4 1003 (by omega), a4 1003 (by omega)]⟩
  by_cases c : r = nI (len + 1)
  · have o' := o
    rcases o with ⟨v, h1, h2, e, ⟨h3, h4⟩ | ⟨h3, h4⟩⟩ | ⟨_, h4⟩
    · exfalso
      rw [h4, h3] at c
      revert c
      decide
    · refine ⟨I, s, H, n, len + 1, upN T len v, ClL_f (a3 v e c) b4, b3 v e c, by omega, fun j hj => ?_⟩
      unfold upN
      by_cases cj : j = len
      · rw [if_pos cj]; exact h2
      · rw [if_neg cj]; exact hT j (by omega)
    · exfalso
      rw [h4] at c
      have h := congrArg Int32.toInt c
      rw [nI_toInt (by omega)] at h
      have h2 : Int32.toInt (-1000000001) = -1000000001 := by decide
      omega
  · rw [b2 c]
    exact ⟨I, s, H, n, len, T, a2 c, RfL_f F a4, hl, hT⟩
theorem p_19 {σ : Sg} {M : Mem} (hm : IsM σ) (h : St σ M) : Pair σ M 21 [some (.ref 0)] 150 [some (.ref 106), none] := by
  obtain ⟨I, s, H, n, len, T, L, F, hl, hT⟩ := h
  obtain ⟨M1, a1, a2, a4⟩ := c21 L
  obtain ⟨M2, b1, b2, b4⟩ := m150 hm (RfL_f F a4)
  exact ⟨nI len, σ, M1, M2, a1, b1, ⟨I, s, H, n, 0, T, ClL_f a2 b4, b2, Nat.zero_le _, fun j hj => absurd hj (Nat.not_lt_zero _)⟩, Sm_r, a4 1003 (by omega), by rw [b4 1003 (by omega), a4 1003 (by omega)]⟩
