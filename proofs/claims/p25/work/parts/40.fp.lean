/-! floats: numbers with a whole significand of 24 digits -/
def fU (E t : Nat) : UInt32 := UInt32.ofNat (E * 8388608 + t)
theorem fU_n {E t : Nat} (hE : E < 255) (ht : t < 8388608) : (fU E t).toNat = E * 8388608 + t := by
  unfold fU
  rw [UInt32.toNat_ofNat']
  omega
theorem fp_tails : FP.Core.b32.tails = 8388608 := rfl
theorem fp_exps : FP.Core.b32.exps = 256 := rfl
theorem fp_qmin : FP.Core.b32.qmin = -149 := rfl
theorem fp_qmax : FP.Core.b32.qmax = 104 := rfl
theorem fp_p : FP.Core.b32.p = 24 := rfl
theorem fp_dec {E t : Nat} (h1 : 1 ≤ E) (h2 : E < 255) (ht : t < 8388608) : FP.Core.decode FP.Core.b32 (E * 8388608 + t) = .fin false (8388608 + t) ((E : Int) - 150) := by
  have e1 : (E * 8388608 + t) / 8388608 = E := by omega
  have e2 : (E * 8388608 + t) % 8388608 = t := by omega
  have fE : FP.Core.fieldE FP.Core.b32 (E * 8388608 + t) = E := by
    unfold FP.Core.fieldE
    rw [fp_tails, fp_exps, e1]
    omega
  have fT : FP.Core.fieldT FP.Core.b32 (E * 8388608 + t) = t := by
    unfold FP.Core.fieldT
    rw [fp_tails, e2]
  have fS : FP.Core.fieldS FP.Core.b32 (E * 8388608 + t) = false := by
    unfold FP.Core.fieldS
    rw [fp_tails, fp_exps, e1]
    have : E / 256 % 2 = 0 := by omega
    rw [this]; rfl
  unfold FP.Core.decode
  rw [fE, fT, fS, fp_exps, fp_tails, fp_qmin, if_neg (by omega), if_neg (by omega)]
  congr 1
  omega
theorem fp_decU {E t : Nat} (h1 : 1 ≤ E) (h2 : E < 255) (ht : t < 8388608) : FP.Core.decode FP.Core.b32 (fU E t).toNat = .fin false (8388608 + t) ((E : Int) - 150) := by
  rw [fU_n h2 ht, fp_dec h1 h2 ht]
theorem fp_enc {E c : Nat} {q : Int} (h1 : 1 ≤ E) (hc : 8388608 ≤ c) (hq : q = (E : Int) - 150) : UInt32.ofNat (FP.Core.encode FP.Core.b32 (.fin false c q)) = fU E (c - 8388608) := by
  unfold FP.Core.encode FP.Core.assemble fU
  rw [fp_exps, fp_tails, fp_qmin]
  dsimp only
  rw [if_neg (by omega)]
  have : (q - -149).toNat + 1 = E := by omega
  rw [this, show Bool.toNat false = 0 from rfl, Nat.zero_mul, Nat.zero_add]
theorem log2_at {n k : Nat} (h1 : 2 ^ k ≤ n) (h2 : n < 2 ^ (k + 1)) : n.log2 = k := by
  have h0 : n ≠ 0 := by
    have : 0 < 2 ^ k := Nat.pow_pos (by decide)
    omega
  exact (Nat.log2_eq_iff h0).2 ⟨h1, h2⟩
theorem near_1 {n : Nat} : FP.Core.nearest n 1 = n := by
  unfold FP.Core.nearest
  rw [Nat.mod_one, if_pos (by decide), Nat.div_one]
theorem near_e {c d : Nat} (hd : 0 < d) : FP.Core.nearest (c * d) d = c := by
  unfold FP.Core.nearest
  rw [Nat.mul_mod_left, if_pos (by omega), Nat.mul_div_cancel _ hd]
theorem two23 : (2 : Nat) ^ 23 = 8388608 := rfl
theorem two24 : (2 : Nat) ^ 24 = 16777216 := rfl
theorem settle_ok {c : Nat} {q : Int} (hc : c < 16777216) (hq : q ≤ 104) : FP.Core.settle FP.Core.b32 false c q = .fin false c q := by
  unfold FP.Core.settle FP.Core.bound
  rw [fp_p, fp_qmax, two24, if_pos hc, if_pos hq]
theorem lead_1 {n k : Nat} (h1 : 2 ^ k ≤ n) (h2 : n < 2 ^ (k + 1)) : FP.Core.leading n 1 = (k : Int) := by
  unfold FP.Core.leading
  rw [log2_at h1 h2, show Nat.log2 1 = 0 from by decide]
  have e1 : ((k : Int) - ((0 : Nat) : Int)).toNat = k := by omega
  have e2 : (-((k : Int) - ((0 : Nat) : Int))).toNat = 0 := by omega
  simp only [e1, e2, Nat.one_mul, Nat.pow_zero, Nat.mul_one]
  rw [if_pos h1]
  omega
/-- a number of 24 digits with noughts behind it -/
theorem round_a {c a : Nat} {e q : Int} (h1 : 8388608 ≤ c) (h2 : c < 16777216) (hq : q = e + a) (l1 : -149 ≤ q) (l2 : q ≤ 104) : FP.Core.roundRatio FP.Core.b32 false (c * 2 ^ a) 1 e = .fin false c q := by
  have hp : 0 < 2 ^ a := Nat.pow_pos (by decide)
  have h0 : c * 2 ^ a ≠ 0 := Nat.ne_of_gt (Nat.mul_pos (by omega) hp)
  have b1 : 2 ^ (23 + a) ≤ c * 2 ^ a := by
    rw [Nat.pow_add, two23]
    exact Nat.mul_le_mul_right _ h1
  have b2 : c * 2 ^ a < 2 ^ (23 + a + 1) := by
    rw [show 23 + a + 1 = 24 + a by omega, Nat.pow_add, two24]
    exact Nat.mul_lt_mul_of_pos_right h2 hp
  have hl := lead_1 b1 b2
  have hqm : FP.Core.quantum FP.Core.b32 (c * 2 ^ a) 1 e = q := by
    unfold FP.Core.quantum
    rw [hl, fp_qmin, fp_p]
    omega
  unfold FP.Core.roundRatio FP.Core.roundAt FP.Core.unitsNum FP.Core.unitsDen
  rw [if_neg h0, hqm]
  have e1 : (e - q).toNat = 0 := by omega
  have e2 : (q - e).toNat = a := by omega
  rw [e1, e2, Nat.pow_zero, Nat.mul_one, Nat.one_mul, near_e hp, settle_ok h2 l2]
/-- a whole number of at most 24 digits -/
theorem round_b {n k : Nat} {e q : Int} (h1 : 2 ^ k ≤ n) (h2 : n < 2 ^ (k + 1)) (hk : k ≤ 23) (hq : q = e + k - 23) (l1 : -149 ≤ q) (l2 : q ≤ 104) : FP.Core.roundRatio FP.Core.b32 false n 1 e = .fin false (n * 2 ^ (23 - k)) q ∧ 8388608 ≤ n * 2 ^ (23 - k) ∧ n * 2 ^ (23 - k) < 16777216 := by
  have hp : 0 < 2 ^ (23 - k) := Nat.pow_pos (by decide)
  have c1 : 8388608 ≤ n * 2 ^ (23 - k) := by
    have h : 2 ^ k * 2 ^ (23 - k) ≤ n * 2 ^ (23 - k) := Nat.mul_le_mul_right _ h1
    rw [← Nat.pow_add, show k + (23 - k) = 23 by omega, two23] at h
    exact h
  have c2 : n * 2 ^ (23 - k) < 16777216 := by
    have h : n * 2 ^ (23 - k) < 2 ^ (k + 1) * 2 ^ (23 - k) := Nat.mul_lt_mul_of_pos_right h2 hp
    rw [← Nat.pow_add, show k + 1 + (23 - k) = 24 by omega, two24] at h
    exact h
  have h0 : n ≠ 0 := by
    have : 0 < 2 ^ k := Nat.pow_pos (by decide)
    omega
  have hl := lead_1 h1 h2
  have hqm : FP.Core.quantum FP.Core.b32 n 1 e = q := by
    unfold FP.Core.quantum
    rw [hl, fp_qmin, fp_p]
    omega
  refine ⟨?_, c1, c2⟩
  unfold FP.Core.roundRatio FP.Core.roundAt FP.Core.unitsNum FP.Core.unitsDen
  rw [if_neg h0, hqm]
  have e1 : (e - q).toNat = 23 - k := by omega
  have e2 : (q - e).toNat = 0 := by omega
  rw [e1, e2, Nat.pow_zero, Nat.mul_one, near_1, settle_ok c2 l2]
theorem log_ex {n : Nat} (h1 : 1 ≤ n) : ∃ k, 2 ^ k ≤ n ∧ n < 2 ^ (k + 1) := ⟨n.log2, Nat.log2_self_le (by omega), Nat.lt_log2_self⟩
theorem log_le {n k m : Nat} (h1 : 2 ^ k ≤ n) (h2 : n < 2 ^ (m + 1)) : k ≤ m := by
  by_cases c : k ≤ m
  · exact c
  · have : 2 ^ (m + 1) ≤ 2 ^ k := Nat.pow_le_pow_right (by decide) (by omega)
    omega
theorem fi2f {n : Nat} (h1 : 1 ≤ n) (h2 : n < 16777216) : ∃ k, 2 ^ k ≤ n ∧ n < 2 ^ (k + 1) ∧ k ≤ 23 ∧ 8388608 ≤ n * 2 ^ (23 - k) ∧ n * 2 ^ (23 - k) < 16777216 ∧ FP.i2f (nI n) = fU (k + 127) (n * 2 ^ (23 - k) - 8388608) := by
  obtain ⟨k, a1, a2⟩ := log_ex h1
  have hk : k ≤ 23 := log_le a1 (by rw [show 23 + 1 = 24 from rfl, two24]; exact h2)
  obtain ⟨b1, b2, b3⟩ := round_b (e := 0) (q := (k : Int) - 23) a1 a2 hk (by omega) (by omega) (by omega)
  refine ⟨k, a1, a2, hk, b2, b3, ?_⟩
  show UInt32.ofNat (FP.Core.fromInt FP.Core.b32 (nI n).toInt) = _
  rw [nI_toInt (by omega)]
  unfold FP.Core.fromInt FP.Core.ofInt
  have e1 : decide ((n : Int) < 0) = false := decide_eq_false (by omega)
  rw [e1]
  show UInt32.ofNat (FP.Core.encode FP.Core.b32 (FP.Core.roundRatio FP.Core.b32 false (n : Int).natAbs 1 0)) = _
  rw [show (n : Int).natAbs = n by omega, b1, fp_enc (E := k + 127) (by omega) b2 (by omega)]
theorem near_le {n d m : Nat} (hd : 0 < d) (h : n ≤ m * d) : FP.Core.nearest n d ≤ m := by
  have h1 : n / d ≤ m := by
    have := Nat.div_le_div_right (c := d) h
    rwa [Nat.mul_div_cancel _ hd] at this
  have h2 := Nat.div_add_mod n d
  unfold FP.Core.nearest
  split
  · exact h1
  · rename_i c
    have hlt : n / d < m ∨ n / d = m := by omega
    rcases hlt with hlt | hlt
    · split
      · omega
      · omega
    · rw [hlt, Nat.mul_comm] at h2
      have : n % d = 0 := by omega
      omega
theorem near_ge {n d m : Nat} (hd : 0 < d) (h : m * d ≤ n) : m ≤ FP.Core.nearest n d := by
  have h1 : m ≤ n / d := (Nat.le_div_iff_mul_le hd).2 h
  unfold FP.Core.nearest
  split
  · exact h1
  · split <;> omega
/-- the quotient of two such numbers -/
theorem round_q {c d : Nat} {e : Int} (c1 : 8388608 ≤ c) (c2 : c < 16777216) (d1 : 8388608 ≤ d) (d2 : d < 16777216) (e1 : -24 ≤ e) (e2 : e ≤ 0) (he : e = 0 → c ≤ d) : ∃ c' q, FP.Core.roundRatio FP.Core.b32 false c d e = .fin false c' q ∧ 8388608 ≤ c' ∧ c' < 16777216 ∧ -48 ≤ q ∧ q ≤ -23 := by
  have lc : c.log2 = 23 := log2_at (by rw [two23]; exact c1) (by rw [show 23 + 1 = 24 from rfl, two24]; exact c2)
  have ld : d.log2 = 23 := log2_at (by rw [two23]; exact d1) (by rw [show 23 + 1 = 24 from rfl, two24]; exact d2)
  have hl : FP.Core.leading c d = if d ≤ c then 0 else -1 := by
    unfold FP.Core.leading
    rw [lc, ld]
    have z1 : (((23 : Nat) : Int) - ((23 : Nat) : Int)).toNat = 0 := by decide
    have z2 : (-(((23 : Nat) : Int) - ((23 : Nat) : Int))).toNat = 0 := by decide
    simp only [z1, z2, Nat.pow_zero, Nat.mul_one]
    split <;> decide
  have key : ∀ (a : Nat) (q : Int), e - q = a → FP.Core.quantum FP.Core.b32 c d e = q → 8388608 * d ≤ c * 2 ^ a → c * 2 ^ a ≤ 16777216 * d → -48 ≤ q → (q ≤ -24 ∨ q = -23 ∧ c * 2 ^ a ≤ 8388608 * d) → ∃ c' q, FP.Core.roundRatio FP.Core.b32 false c d e = .fin false c' q ∧ 8388608 ≤ c' ∧ c' < 16777216 ∧ -48 ≤ q ∧ q ≤ -23 := by
    intro a q ha hq k1 k2 k3 k4
    have hd : 0 < d := by omega
    have n1 := near_ge hd k1
    have n2 := near_le hd k2
    unfold FP.Core.roundRatio FP.Core.roundAt FP.Core.unitsNum FP.Core.unitsDen
    rw [if_neg (by omega), hq]
    have z1 : (e - q).toNat = a := by omega
    have z2 : (q - e).toNat = 0 := by omega
    rw [z1, z2, Nat.pow_zero, Nat.mul_one]
    by_cases c3 : FP.Core.nearest (c * 2 ^ a) d < 16777216
    · exact ⟨_, q, settle_ok c3 (by omega), n1, c3, k3, by omega⟩
    · rcases k4 with k4 | ⟨k4, k5⟩
      · refine ⟨8388608, q + 1, ?_, by omega, by omega, by omega, by omega⟩
        unfold FP.Core.settle FP.Core.bound
        rw [fp_p, fp_qmax, fp_tails, two24, if_neg c3, if_pos (by omega)]
      · have n3 := near_le hd k5
        omega
  by_cases h : d ≤ c
  · rw [if_pos h] at hl
    refine key 23 (e - 23) (by omega) ?_ ?_ ?_ (by omega) ?_
    · unfold FP.Core.quantum
      rw [hl, fp_qmin, fp_p]
      omega
    · rw [two23]; omega
    · rw [two23]; omega
    · by_cases c0 : e = 0
      · have := he c0
        right
        rw [two23]
        exact ⟨by omega, by omega⟩
      · left; omega
  · rw [if_neg h] at hl
    refine key 24 (e - 24) (by omega) ?_ ?_ ?_ (by omega) (Or.inl (by omega))
    · unfold FP.Core.quantum
      rw [hl, fp_qmin, fp_p]
      omega
    · rw [two24]; omega
    · rw [two24]; omega
theorem fdiv_ok {w S : Nat} (h1 : 1 ≤ w) (h2 : w ≤ S) (h3 : S < 16777216) : ∃ E t, FP.fdiv (FP.i2f (nI w)) (FP.i2f (nI S)) = fU E t ∧ 1 ≤ E ∧ E ≤ 127 ∧ t < 8388608 := by
  obtain ⟨k, a1, a2, a3, a4, a5, a6⟩ := fi2f h1 (by omega)
  obtain ⟨l, b1, b2, b3, b4, b5, b6⟩ := fi2f (n := S) (by omega) h3
  have kl : k ≤ l := log_le a1 (Nat.lt_of_le_of_lt h2 b2)
  have he : (k : Int) - l = 0 → w * 2 ^ (23 - k) ≤ S * 2 ^ (23 - l) := fun h => by
    have : k = l := by omega
    rw [this]
    exact Nat.mul_le_mul_right _ h2
  obtain ⟨c', q, q1, q2, q3, q4, q5⟩ := round_q (e := (k : Int) - l) a4 a5 b4 b5 (by omega) (by omega) he
  refine ⟨(q + 150).toNat, c' - 8388608, ?_, by omega, by omega, by omega⟩
  rw [a6, b6]
  show UInt32.ofNat (FP.Core.div FP.Core.b32 (fU (k + 127) _).toNat (fU (l + 127) _).toNat) = _
  unfold FP.Core.div
  rw [fp_decU (by omega) (by omega) (by omega), fp_decU (by omega) (by omega) (by omega)]
  unfold FP.Core.quotient
  dsimp only
  rw [if_neg (by omega), show 8388608 + (w * 2 ^ (23 - k) - 8388608) = w * 2 ^ (23 - k) by omega, show 8388608 + (S * 2 ^ (23 - l) - 8388608) = S * 2 ^ (23 - l) by omega, show (((k + 127 : Nat) : Int) - 150) - (((l + 127 : Nat) : Int) - 150) = (k : Int) - l by omega]
  show UInt32.ofNat (FP.Core.encode FP.Core.b32 (FP.Core.roundRatio FP.Core.b32 false _ _ _)) = _
  rw [q1, fp_enc (E := (q + 150).toNat) (by omega) q2 (by omega)]
