theorem isI_0 : isI 0 = true := id rfl
theorem isI_9 : isI 9 = true := id rfl
theorem isAr_0 : isAr 0 = true := id rfl
theorem isAr_1 : isAr 1 = true := id rfl
theorem isAr_2 : isAr 2 = true := id rfl
theorem isAr_9 : isAr 9 = true := id rfl
theorem upI_s {f : Nat → Int32} {k : Nat} {x : Int32} : upI f k x k = x := if_pos rfl
theorem upI_n {f : Nat → Int32} {k j : Nat} {x : Int32} (h : j ≠ k) : upI f k x j = f j := if_neg h
theorem nI_10 : (nI 1 = 0) = False := eq_false (by decide)
theorem nI_00 : (nI 0 = 0) = True := eq_true (by decide)
def IsG (σ : Sg) (g : Nat) : Prop := sT σ g = 11 ∧ sT σ (g + 1) = 0 ∧ sT σ (g + 2) = 0 ∧ sT σ (g + 3) = 0 ∧ sT σ (g + 4) = 0 ∧ sT σ (g + 5) = 0 ∧ sT σ (g + 6) = 0 ∧ sT σ (g + 7) = 0 ∧ sT σ (g + 8) = 0 ∧ sT σ (g + 9) = 0 ∧ sT σ (g + 10) = 0 ∧ sT σ (g + 11) = 15 ∧ sT σ (g + 12) = 0 ∧ sL σ (g + 1) = 10 ∧ sL σ (g + 2) = 10 ∧ sL σ (g + 3) = 16 ∧ sL σ (g + 4) = 16 ∧ sL σ (g + 5) = 16 ∧ sL σ (g + 6) = 16 ∧ sL σ (g + 7) = 16 ∧ sL σ (g + 8) = 16 ∧ sL σ (g + 9) = 7 ∧ sL σ (g + 10) = 3 ∧ sL σ (g + 12) = 10 ∧ sR σ g 1 = some (g + 1) ∧ sR σ g 2 = some (g + 2) ∧ sR σ g 4 = some (g + 3) ∧ sR σ g 5 = some (g + 4) ∧ sR σ g 6 = some (g + 5) ∧ sR σ g 7 = some (g + 6) ∧ sR σ g 8 = some (g + 7) ∧ sR σ g 9 = some (g + 8) ∧ sR σ g 12 = some (g + 9) ∧ sR σ g 14 = some (g + 10) ∧ sR σ g 15 = some (g + 11) ∧ sR σ (g + 11) 0 = some (g + 12)
theorem ig_t0 {σ : Sg} {g : Nat} (h : IsG σ g) : sT σ g = 11 := h.1
theorem ig_t1 {σ : Sg} {g : Nat} (h : IsG σ g) : sT σ (g + 1) = 0 := h.2.1
theorem ig_t2 {σ : Sg} {g : Nat} (h : IsG σ g) : sT σ (g + 2) = 0 := h.2.2.1
theorem ig_t3 {σ : Sg} {g : Nat} (h : IsG σ g) : sT σ (g + 3) = 0 := h.2.2.2.1
theorem ig_t4 {σ : Sg} {g : Nat} (h : IsG σ g) : sT σ (g + 4) = 0 := h.2.2.2.2.1
theorem ig_t5 {σ : Sg} {g : Nat} (h : IsG σ g) : sT σ (g + 5) = 0 := h.2.2.2.2.2.1
theorem ig_t6 {σ : Sg} {g : Nat} (h : IsG σ g) : sT σ (g + 6) = 0 := h.2.2.2.2.2.2.1
theorem ig_t7 {σ : Sg} {g : Nat} (h : IsG σ g) : sT σ (g + 7) = 0 := h.2.2.2.2.2.2.2.1
theorem ig_t8 {σ : Sg} {g : Nat} (h : IsG σ g) : sT σ (g + 8) = 0 := h.2.2.2.2.2.2.2.2.1
theorem ig_t9 {σ : Sg} {g : Nat} (h : IsG σ g) : sT σ (g + 9) = 0 := h.2.2.2.2.2.2.2.2.2.1
theorem ig_t10 {σ : Sg} {g : Nat} (h : IsG σ g) : sT σ (g + 10) = 0 := h.2.2.2.2.2.2.2.2.2.2.1
theorem ig_t11 {σ : Sg} {g : Nat} (h : IsG σ g) : sT σ (g + 11) = 15 := h.2.2.2.2.2.2.2.2.2.2.2.1
theorem ig_t12 {σ : Sg} {g : Nat} (h : IsG σ g) : sT σ (g + 12) = 0 := h.2.2.2.2.2.2.2.2.2.2.2.2.1
theorem ig_l1 {σ : Sg} {g : Nat} (h : IsG σ g) : sL σ (g + 1) = 10 := h.2.2.2.2.2.2.2.2.2.2.2.2.2.1
theorem ig_l2 {σ : Sg} {g : Nat} (h : IsG σ g) : sL σ (g + 2) = 10 := h.2.2.2.2.2.2.2.2.2.2.2.2.2.2.1
theorem ig_l3 {σ : Sg} {g : Nat} (h : IsG σ g) : sL σ (g + 3) = 16 := h.2.2.2.2.2.2.2.2.2.2.2.2.2.2.2.1
theorem ig_l4 {σ : Sg} {g : Nat} (h : IsG σ g) : sL σ (g + 4) = 16 := h.2.2.2.2.2.2.2.2.2.2.2.2.2.2.2.2.1
theorem ig_l5 {σ : Sg} {g : Nat} (h : IsG σ g) : sL σ (g + 5) = 16 := h.2.2.2.2.2.2.2.2.2.2.2.2.2.2.2.2.2.1
theorem ig_l6 {σ : Sg} {g : Nat} (h : IsG σ g) : sL σ (g + 6) = 16 := h.2.2.2.2.2.2.2.2.2.2.2.2.2.2.2.2.2.2.1
theorem ig_l7 {σ : Sg} {g : Nat} (h : IsG σ g) : sL σ (g + 7) = 16 := h.2.2.2.2.2.2.2.2.2.2.2.2.2.2.2.2.2.2.2.1
theorem ig_l8 {σ : Sg} {g : Nat} (h : IsG σ g) : sL σ (g + 8) = 16 := h.2.2.2.2.2.2.2.2.2.2.2.2.2.2.2.2.2.2.2.2.1
theorem ig_l9 {σ : Sg} {g : Nat} (h : IsG σ g) : sL σ (g + 9) = 7 := h.2.2.2.2.2.2.2.2.2.2.2.2.2.2.2.2.2.2.2.2.2.1
theorem ig_l10 {σ : Sg} {g : Nat} (h : IsG σ g) : sL σ (g + 10) = 3 := h.2.2.2.2.2.2.2.2.2.2.2.2.2.2.2.2.2.2.2.2.2.2.1
theorem ig_l12 {σ : Sg} {g : Nat} (h : IsG σ g) : sL σ (g + 12) = 10 := h.2.2.2.2.2.2.2.2.2.2.2.2.2.2.2.2.2.2.2.2.2.2.2.1
theorem ig_r1 {σ : Sg} {g : Nat} (h : IsG σ g) : sR σ g 1 = some (g + 1) := h.2.2.2.2.2.2.2.2.2.2.2.2.2.2.2.2.2.2.2.2.2.2.2.2.1
theorem ig_r2 {σ : Sg} {g : Nat} (h : IsG σ g) : sR σ g 2 = some (g + 2) := h.2.2.2.2.2.2.2.2.2.2.2.2.2.2.2.2.2.2.2.2.2.2.2.2.2.1
theorem ig_r4 {σ : Sg} {g : Nat} (h : IsG σ g) : sR σ g 4 = some (g + 3) := h.2.2.2.2.2.2.2.2.2.2.2.2.2.2.2.2.2.2.2.2.2.2.2.2.2.2.1
theorem ig_r5 {σ : Sg} {g : Nat} (h : IsG σ g) : sR σ g 5 = some (g + 4) := h.2.2.2.2.2.2.2.2.2.2.2.2.2.2.2.2.2.2.2.2.2.2.2.2.2.2.2.1
theorem ig_r6 {σ : Sg} {g : Nat} (h : IsG σ g) : sR σ g 6 = some (g + 5) := h.2.2.2.2.2.2.2.2.2.2.2.2.2.2.2.2.2.2.2.2.2.2.2.2.2.2.2.2.1
theorem ig_r7 {σ : Sg} {g : Nat} (h : IsG σ g) : sR σ g 7 = some (g + 6) := h.2.2.2.2.2.2.2.2.2.2.2.2.2.2.2.2.2.2.2.2.2.2.2.2.2.2.2.2.2.1
theorem ig_r8 {σ : Sg} {g : Nat} (h : IsG σ g) : sR σ g 8 = some (g + 7) := h.2.2.2.2.2.2.2.2.2.2.2.2.2.2.2.2.2.2.2.2.2.2.2.2.2.2.2.2.2.2.1
theorem ig_r9 {σ : Sg} {g : Nat} (h : IsG σ g) : sR σ g 9 = some (g + 8) := h.2.2.2.2.2.2.2.2.2.2.2.2.2.2.2.2.2.2.2.2.2.2.2.2.2.2.2.2.2.2.2.1
theorem ig_r12 {σ : Sg} {g : Nat} (h : IsG σ g) : sR σ g 12 = some (g + 9) := h.2.2.2.2.2.2.2.2.2.2.2.2.2.2.2.2.2.2.2.2.2.2.2.2.2.2.2.2.2.2.2.2.1
theorem ig_r14 {σ : Sg} {g : Nat} (h : IsG σ g) : sR σ g 14 = some (g + 10) := h.2.2.2.2.2.2.2.2.2.2.2.2.2.2.2.2.2.2.2.2.2.2.2.2.2.2.2.2.2.2.2.2.2.1
theorem ig_r15 {σ : Sg} {g : Nat} (h : IsG σ g) : sR σ g 15 = some (g + 11) := h.2.2.2.2.2.2.2.2.2.2.2.2.2.2.2.2.2.2.2.2.2.2.2.2.2.2.2.2.2.2.2.2.2.2.1
theorem ig_rw {σ : Sg} {g : Nat} (h : IsG σ g) : sR σ (g + 11) 0 = some (g + 12) := h.2.2.2.2.2.2.2.2.2.2.2.2.2.2.2.2.2.2.2.2.2.2.2.2.2.2.2.2.2.2.2.2.2.2.2
def IsW (σ : Sg) (w : Nat) : Prop := sT σ w = 15 ∧ sT σ (w + 1) = 0 ∧ sL σ (w + 1) = 10 ∧ sR σ w 0 = some (w + 1)
theorem iw_t0 {σ : Sg} {w : Nat} (h : IsW σ w) : sT σ w = 15 := h.1
theorem iw_t1 {σ : Sg} {w : Nat} (h : IsW σ w) : sT σ (w + 1) = 0 := h.2.1
theorem iw_l1 {σ : Sg} {w : Nat} (h : IsW σ w) : sL σ (w + 1) = 10 := h.2.2.1
theorem iw_r0 {σ : Sg} {w : Nat} (h : IsW σ w) : sR σ w 0 = some (w + 1) := h.2.2.2
theorem ig_way {σ : Sg} {g : Nat} (h : IsG σ g) : IsW σ (g + 11) := ⟨ig_t11 h, ig_t12 h, ig_l12 h, ig_rw h⟩
def IsM (σ : Sg) : Prop := sT σ 106 = 17 ∧ sT σ 107 = 0 ∧ sT σ 108 = 0 ∧ sT σ 109 = 0 ∧ sT σ 110 = 0 ∧ sT σ 111 = 0 ∧ sT σ 112 = 0 ∧ sT σ 113 = 0 ∧ sT σ 114 = 0 ∧ sT σ 115 = 0 ∧ sT σ 116 = 0 ∧ sL σ 107 = 146 ∧ sL σ 108 = 146 ∧ sL σ 109 = 146 ∧ sL σ 110 = 584 ∧ sL σ 111 = 60 ∧ sL σ 112 = 10 ∧ sL σ 113 = 10 ∧ sL σ 114 = 5 ∧ sL σ 115 = 5 ∧ sL σ 116 = 3 ∧ sR σ 106 0 = some 107 ∧ sR σ 106 1 = some 108 ∧ sR σ 106 2 = some 109 ∧ sR σ 106 3 = some 110 ∧ sR σ 106 5 = some 111 ∧ sR σ 106 7 = some 112 ∧ sR σ 106 14 = some 113 ∧ sR σ 106 15 = some 114 ∧ sR σ 106 16 = some 115 ∧ sR σ 106 22 = some 116
/-- a row of numbers -/
def nf (s : Nat → Nat) : Nat → Int32 := fun i => nI (s i)
theorem nf_at {s : Nat → Nat} {i : Nat} : nf s i = nI (s i) := id rfl
def upN (s : Nat → Nat) (k x : Nat) : Nat → Nat := fun j => if j = k then x else s j
theorem upN_s {s : Nat → Nat} {k x : Nat} : upN s k x k = x := if_pos rfl
theorem upN_n {s : Nat → Nat} {k x j : Nat} (h : j ≠ k) : upN s k x j = s j := if_neg h
theorem upI_nf {s : Nat → Nat} {k x : Nat} : upI (nf s) k (nI x) = nf (upN s k x) := by
  funext j
  unfold upI nf upN
  split <;> rfl
theorem upM_up {α : Type} {M : Nat → α} {o : Nat} {f g : α} : upM (upM M o f) o g = upM M o g := by
  funext b
  unfold upM
  split <;> rfl
theorem upM_self {α : Type} {M : Nat → α} {o : Nat} {f : α} (h : M o = f) : upM M o f = M := by
  funext b
  unfold upM
  split
  · rename_i e
    rw [e, h]
  · rfl
theorem upM_sw {α : Type} {M : Nat → α} {o p : Nat} {f g : α} (h : o ≠ p) : upM (upM M o f) p g = upM (upM M p g) o f := by
  funext b
  unfold upM
  by_cases h1 : b = o
  · subst h1
    simp [h]
  · by_cases h2 : b = p
    · subst h2
      simp [h1]
    · simp [h1, h2]
theorem s_31 : ∀ n, n < 32 → ((nI n &&& 31).toBitVec.smod 32).toNat = n := by decide +kernel
theorem fa_or (a b : Nat) : nI a ||| nI b = nI (a ||| b) := by
  apply Int32.toBitVec_inj.1
  show BitVec.ofNat 32 a ||| BitVec.ofNat 32 b = BitVec.ofNat 32 (a ||| b)
  apply BitVec.eq_of_getLsbD_eq
  intro i hi
  simp [hi]
/-- a bit of a set -/
def bit (b t : Nat) : Nat := b / 2 ^ t % 2
theorem bit_lt {b t : Nat} : bit b t < 2 := Nat.mod_lt _ (by decide)
theorem shr_bit {b t : Nat} (hb : b < 2 ^ 31) (ht : t < 32) : (nI b >>> (nI t &&& 31)) &&& nI 1 = nI (bit b t) := by
  rw [pk_shrN hb _ t (s_31 t ht), pk_andN (Nat.lt_of_le_of_lt (Nat.div_le_self _ _) (by omega)) 1 (by decide)]
  rfl
theorem shl_one {t : Nat} (ht : t < 31) : nI 1 <<< (nI t &&& 31) = nI (2 ^ t) := by
  have h : 2 ^ t < 2 ^ 31 := Nat.pow_lt_pow_right (by decide) ht
  rw [pk_shlN _ t (s_31 t (by omega)) (by omega), Nat.one_mul]
theorem or_set {b t : Nat} (ht : t < 31) : nI b ||| (nI 1 <<< (nI t &&& 31)) = nI (b ||| 2 ^ t) := by rw [shl_one ht, fa_or]
theorem bit_tb (b t : Nat) : b.testBit t = decide (bit b t = 1) := by rw [Nat.testBit_eq_decide_div_mod_eq]; rfl
theorem bit_or {b t u : Nat} : bit (b ||| 2 ^ t) u = if u = t then 1 else bit b u := by
  have h := bit_tb (b ||| 2 ^ t) u
  have h2 := bit_tb b u
  rw [Nat.testBit_or, Nat.testBit_two_pow] at h
  have l1 := @bit_lt (b ||| 2 ^ t) u
  have l2 := @bit_lt b u
  by_cases e : u = t
  · rw [if_pos e]
    subst e
    simp at h
    omega
  · rw [if_neg e]
    have e2 : ¬ t = u := fun q => e q.symm
    simp [e2] at h
    rw [h2] at h
    have h3 : (bit b u = 1) ↔ (bit (b ||| 2 ^ t) u = 1) := by simpa using h
    omega
theorem or_lt {b t n : Nat} (hb : b < 2 ^ n) (ht : t < n) : b ||| 2 ^ t < 2 ^ n := Nat.or_lt_two_pow hb (Nat.pow_lt_pow_right (by decide) ht)
def sumTo (f : Nat → Nat) : Nat → Nat
  | 0 => 0
  | n + 1 => sumTo f n + f n
theorem sumTo_le {f : Nat → Nat} {c : Nat} : ∀ {n : Nat}, (∀ k, k < n → f k ≤ c) → sumTo f n ≤ n * c
  | 0, _ => Nat.zero_le _
  | n + 1, h => by
    have ih := sumTo_le (f := f) (c := c) (n := n) (fun k hk => h k (by omega))
    have h2 := h n (by omega)
    have h3 : (n + 1) * c = n * c + c := Nat.succ_mul n c
    simp only [sumTo]
    omega
theorem sumTo_congr {f g : Nat → Nat} : ∀ {n : Nat}, (∀ k, k < n → f k = g k) → sumTo f n = sumTo g n
  | 0, _ => rfl
  | n + 1, h => by simp only [sumTo]; rw [sumTo_congr (fun k hk => h k (by omega)), h n (by omega)]
