theorem isI_0 : isI 0 = true := id rfl
theorem isI_9 : isI 9 = true := id rfl
theorem isAr_0 : isAr 0 = true := id rfl
theorem isAr_1 : isAr 1 = true := id rfl
theorem isAr_2 : isAr 2 = true := id rfl
theorem isAr_9 : isAr 9 = true := id rfl
theorem upI_s {f : Nat → Int32} {k : Nat} {x : Int32} : upI f k x k = x := if_pos rfl
theorem upI_n {f : Nat → Int32} {k j : Nat} {x : Int32} (h : j ≠ k) : upI f k x j = f j := if_neg h
theorem nI_10 : (nI 1 = 0) = False := eq_false (by decide)
theorem nI_00 : (nI 0 = 0) = True := eq_true (by decide)
def IsG (σ : Sg) (g : Nat) : Prop := sT σ g = 11 ∧ sT σ (g + 1) = 0 ∧ sT σ (g + 2) = 0 ∧ sT σ (g + 3) = 0 ∧ sT σ (g + 4) = 0 ∧ sT σ (g + 5) = 0 ∧ sT σ (g + 6) = 0 ∧ sT σ (g + 7) = 0 ∧ sT σ (g + 8) = 0 ∧ sT σ (g + 9) = 0 ∧ sT σ (g + 10) = 0 ∧ sT σ (g + 11) = 15 ∧ sT σ (g + 12) = 0 ∧ sL σ (g + 1) = 10 ∧ sL σ (g + 2) = 10 ∧ sL σ (g + 3) = 16 ∧ sL σ (g + 4) = 16 ∧ sL σ (g + 5) = 16 ∧ sL σ (g + 6) = 16 ∧ sL σ (g + 7) = 16 ∧ sL σ (g + 8) = 16 ∧ sL σ (g + 9) = 7 ∧ sL σ (g + 10) = 3 ∧ sL σ (g + 12) = 10 ∧ sR σ g 1 = some (g + 1) ∧ sR σ g 2 = some (g + 2) ∧ sR σ g 4 = some (g + 3) ∧ sR σ g 5 = some (g + 4) ∧ sR σ g 6 = some (g + 5) ∧ sR σ g 7 = some (g + 6) ∧ sR σ g 8 = some (g + 7) ∧ sR σ g 9 = some (g + 8) ∧ sR σ g 12 = some (g + 9) ∧ sR σ g 14 = some (g + 10) ∧ sR σ g 15 = some (g + 11) ∧ sR σ (g + 11) 0 = some (g + 12)
theorem ig_t0 {σ : Sg} {g : Nat} (h : IsG σ g) : sT σ g = 11 := h.1
theorem ig_t1 {σ : Sg} {g : Nat} (h : IsG σ g) : sT σ (g + 1) = 0 := h.2.1
theorem ig_t2 {σ : Sg} {g : Nat} (h : IsG σ g) : sT σ (g + 2) = 0 := h.2.2.1
theorem ig_t3 {σ : Sg} {g : Nat} (h : IsG σ g) : sT σ (g + 3) = 0 := h.2.2.2.1
theorem ig_t4 {σ : Sg} {g : Nat} (h : IsG σ g) : sT σ (g + 4) = 0 := h.2.2.2.2.1
theorem ig_t5 {σ : Sg} {g : Nat} (h : IsG σ g) : sT σ (g + 5) = 0 := h.2.2.2.2.2.1
theorem ig_t6 {σ : Sg} {g : Nat} (h : IsG σ g) : sT σ (g + 6) = 0 := h.2.2.2.2.2.2.1
theorem ig_t7 {σ : Sg} {g : Nat} (h : IsG σ g) : sT σ (g + 7) = 0 := h.2.2.2.2.2.2.2.1
theorem ig_t8 {σ : Sg} {g : Nat} (h : IsG σ g) : sT σ (g + 8) = 0 := h.2.2.2.2.2.2.2.2.1
theorem ig_t9 {σ : Sg} {g : Nat} (h : IsG σ g) : sT σ (g + 9) = 0 := h.2.2.2.2.2.2.2.2.2.1
theorem ig_t10 {σ : Sg} {g : Nat} (h : IsG σ g) : sT σ (g + 10) = 0 := h.2.2.2.2.2.2.2.2.2.2.1
theorem ig_t11 {σ : Sg} {g : Nat} (h : IsG σ g) : sT σ (g + 11) = 15 := h.2.2.2.2.2.2.2.2.2.2.2.1
theorem ig_t12 {σ : Sg} {g : Nat} (h : IsG σ g) : sT σ (g + 12) = 0 := h.2.2.2.2.2.2.2.2.2.2.2.2.1
theorem ig_l1 {σ : Sg} {g : Nat} (h : IsG σ g) : sL σ (g + 1) = 10 := h.2.2.2.2.2.2.2.2.2.2.2.2.2.1
theorem ig_l2 {σ : Sg} {g : Nat} (h : IsG σ g) : sL σ (g + 2) = 10 := h.2.2.2.2.2.2.2.2.2.2.2.2.2.2.1
theorem ig_l3 {σ : Sg} {g : Nat} (h : IsG σ g) : sL σ (g + 3) = 16 := h.2.2.2.2.2.2.2.2.2.2.2.2.2.2.2.1
theorem ig_l4 {σ : Sg} {g : Nat} (h : IsG σ g) : sL σ (g + 4) = 16 := h.2.2.2.2.2.2.2.2.2.2.2.2.2.2.2.2.1
theorem ig_l5 {σ : Sg} {g : Nat} (h : IsG σ g) : sL σ (g + 5) = 16 := h.2.2.2.2.2.2.2.2.2.2.2.2.2.2.2.2.2.1
theorem ig_l6 {σ : Sg} {g : Nat} (h : IsG σ g) : sL σ (g + 6) = 16 := h.2.2.2.2.2.2.2.2.2.2.2.2.2.2.2.2.2.2.1
theorem ig_l7 {σ : Sg} {g : Nat} (h : IsG σ g) : sL σ (g + 7) = 16 := h.2.2.2.2.2.2.2.2.2.2.2.2.2.2.2.2.2.2.2.1
theorem ig_l8 {σ : Sg} {g : Nat} (h : IsG σ g) : sL σ (g + 8) = 16 := h.2.2.2.2.2.2.2.2.2.2.2.2.2.2.2.2.2.2.2.2.1
theorem ig_l9 {σ : Sg} {g : Nat} (h : IsG σ g) : sL σ (g + 9) = 7 := h.2.2.2.2.2.2.2.2.2.2.2.2.2.2.2.2.2.2.2.2.2.1
theorem ig_l10 {σ : Sg} {g : Nat} (h : IsG σ g) : sL σ (g + 10) = 3 := h.2.2.2.2.2.2.2.2.2.2.2.2.2.2.2.2.2.2.2.2.2.2.1
theorem ig_l12 {σ : Sg} {g : Nat} (h : IsG σ g) : sL σ (g + 12) = 10 := h.2.2.2.2.2.2.2.2.2.2.2.2.2.2.2.2.2.2.2.2.2.2.2.1
theorem ig_r1 {σ : Sg} {g : Nat} (h : IsG σ g) : sR σ g 1 = some (g + 1) := h.2.2.2.2.2.2.2.2.2.2.2.2.2.2.2.2.2.2.2.2.2.2.2.2.1
theorem ig_r2 {σ : Sg} {g : Nat} (h : IsG σ g) : sR σ g 2 = some (g + 2) := h.2.2.2.2.2.2.2.2.2.2.2.2.2.2.2.2.2.2.2.2.2.2.2.2.2.1
theorem ig_r4 {σ : Sg} {g : Nat} (h : IsG σ g) : sR σ g 4 = some (g + 3) := h.2.2.2.2.2.2.2.2.2.2.2.2.2.2.2.2.2.2.2.2.2.2.2.2.2.2.1
theorem ig_r5 {σ : Sg} {g : Nat} (h : IsG σ g) : sR σ g 5 = some (g + 4) := h.2.2.2.2.2.2.2.2.2.2.2.2.2.2.2.2.2.2.2.2.2.2.2.2.2.2.2.1
theorem ig_r6 {σ : Sg} {g : Nat} (h : IsG σ g) : sR σ g 6 = some (g + 5) := h.2.2.2.2.2.2.2.2.2.2.2.2.2.2.2.2.2.2.2.2.2.2.2.2.2.2.2.2.1
theorem ig_r7 {σ : Sg} {g : Nat} (h : IsG σ g) : sR σ g 7 = some (g + 6) := h.2.2.2.2.2.2.2.2.2.2.2.2.2.2.2.2.2.2.2.2.2.2.2.2.2.2.2.2.2.1
theorem ig_r8 {σ : Sg} {g : Nat} (h : IsG σ g) : sR σ g 8 = some (g + 7) := h.2.2.2.2.2.2.2.2.2.2.2.2.2.2.2.2.2.2.2.2.2.2.2.2.2.2.2.2.2.2.1
theorem ig_r9 {σ : Sg} {g : Nat} (h : IsG σ g) : sR σ g 9 = some (g + 8) := h.2.2.2.2.2.2.2.2.2.2.2.2.2.2.2.2.2.2.2.2.2.2.2.2.2.2.2.2.2.2.2.1
theorem ig_r12 {σ : Sg} {g : Nat} (h : IsG σ g) : sR σ g 12 = some (g + 9) := h.2.2.2.2.2.2.2.2.2.2.2.2.2.2.2.2.2.2.2.2.2.2.2.2.2.2.2.2.2.2.2.2.1
theorem ig_r14 {σ : Sg} {g : Nat} (h : IsG σ g) : sR σ g 14 = some (g + 10) := h.2.2.2.2.2.2.2.2.2.2.2.2.2.2.2.2.2.2.2.2.2.2.2.2.2.2.2.2.2.2.2.2.2.1
theorem ig_r15 {σ : Sg} {g : Nat} (h : IsG σ g) : sR σ g 15 = some (g + 11) := h.2.2.2.2.2.2.2.2.2.2.2.2.2.2.2.2.2.2.2.2.2.2.2.2.2.2.2.2.2.2.2.2.2.2.1
theorem ig_rw {σ : Sg} {g : Nat} (h : IsG σ g) : sR σ (g + 11) 0 = some (g + 12) := h.2.2.2.2.2.2.2.2.2.2.2.2.2.2.2.2.2.2.2.2.2.2.2.2.2.2.2.2.2.2.2.2.2.2.2
def IsW (σ : Sg) (w : Nat) : Prop := sT σ w = 15 ∧ sT σ (w + 1) = 0 ∧ sL σ (w + 1) = 10 ∧ sR σ w 0 = some (w + 1)
theorem iw_t0 {σ : Sg} {w : Nat} (h : IsW σ w) : sT σ w = 15 := h.1
theorem iw_t1 {σ : Sg} {w : Nat} (h : IsW σ w) : sT σ (w + 1) = 0 := h.2.1
theorem iw_l1 {σ : Sg} {w : Nat} (h : IsW σ w) : sL σ (w + 1) = 10 := h.2.2.1
theorem iw_r0 {σ : Sg} {w : Nat} (h : IsW σ w) : sR σ w 0 = some (w + 1) := h.2.2.2
theorem ig_way {σ : Sg} {g : Nat} (h : IsG σ g) : IsW σ (g + 11) := ⟨ig_t11 h, ig_t12 h, ig_l12 h, ig_rw h⟩
