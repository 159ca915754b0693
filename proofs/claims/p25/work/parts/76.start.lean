/-! the constructors, reckoned once -/
def sA : Sg := alloc (s0 0) 16 0 6
def mA : Mem := upM (m0 (fun _ => 0)) 0 (fun _ => 0)
def rA : Option (Option Value × Sg × Mem) := exec 2000 1 0 [some (.ref 0)] [] sA mA
def s00 : Nat → Nat := fun j => if j = 7 ∨ j = 8 then 1 else if j = 13 then 4 else if j = 14 then 20 else if j = 15 then 100 else if j = 16 then 1 else if j = 17 then 10 else if j = 18 then 1000 else if j = 19 then 60 else 0
def bA (σ : Sg) : Bool := @decide (IsA σ) (by delta IsA; infer_instance)
def bG (σ : Sg) (g : Nat) : Bool := @decide (IsG σ g) (by delta IsG; infer_instance)
def bO (σ : Sg) : Bool := @decide (IsO σ) (by delta IsO IsW; infer_instance)
def bVv (σ : Sg) : Bool := @decide (IsV σ) (by delta IsV IsW; infer_instance)
def bD (σ : Sg) : Bool := @decide (IsD σ) (by delta IsD; infer_instance)
def I0 (i : Nat) : Nat := 29 + 13 * i
def bH (σ : Sg) : Bool := decide (sT σ 27 = 12 ∧ sR σ 27 0 = some 28 ∧ sT σ 28 = 2 ∧ sL σ 28 = 5 ∧ sR σ 28 0 = some 29 ∧ sR σ 28 1 = some 42 ∧ sR σ 28 2 = some 55 ∧ sR σ 28 3 = some 68 ∧ sR σ 28 4 = some 81)
def bS (σ : Sg) : Bool := decide (sT σ 1001 = 9 ∧ sT σ 1002 = 9 ∧ sT σ 1003 = 9 ∧ sL σ 1001 = 7 ∧ sL σ 1002 = 7 ∧ sN σ ≤ 600000 ∧ sS σ ≤ 7302250)
def bW (M : Mem) (w : Nat) : Bool := decide (M w 1 = nI 0 ∧ M w 2 = nI 0 ∧ M w 3 = nI 0 ∧ M w 4 = nI 1 ∧ M (w + 1) 0 = nI 0)
def bJ (M : Mem) : Bool := (List.range 146).all (fun j => (3 ≤ j && j < 4) || (9 ≤ j && j < 13) || (20 ≤ j && j < 30) || decide (M (lo 1 j) (li j) = nI (s00 j)))
def bC (M : Mem) : Bool := (List.range 7).all (fun k => decide (M 1001 k = nI (sMn k) ∧ M 1002 k = nI (sMx k)))
def bZ (M : Mem) : Bool := decide (M 27 1 = nI 0 ∧ M 103 1 = nI 0)
def kB (x : Option (Option Value × Sg × Mem)) : Bool := match x with
  | some (none, σ, M) => bA σ && bG σ 1 && bG σ 14 && bG σ 29 && bG σ 42 && bG σ 55 && bG σ 68 && bG σ 81 && bO σ && bVv σ && bD σ && bH σ && bS σ && bW M 12 && bW M 95 && bW M 101 && bJ M && bC M && bZ M
  | _ => false
theorem kB_t : kB rA = true := by decide +kernel
theorem runs : ∃ σ1 M1, exec 2000 1 0 [some (.ref 0)] [] sA mA = some (none, σ1, M1) ∧ kB (some (none, σ1, M1)) = true := by
  have h1 := kB_t
  cases h : rA with
  | none => rw [h] at h1; cases h1
  | some q =>
    obtain ⟨v, σ1, M1⟩ := q
    cases v with
    | some v => rw [h] at h1; cases h1
    | none =>
      rw [h] at h1
      exact ⟨σ1, M1, h, h1⟩
theorem Inv_00 : Inv s00 ∧ Ex s00 := by
  have z : ∀ j, 20 ≤ j → s00 j = 0 := fun j h => by
    unfold s00
    rw [if_neg (by omega), if_neg (by omega), if_neg (by omega), if_neg (by omega), if_neg (by omega), if_neg (by omega), if_neg (by omega), if_neg (by omega)]
  refine ⟨⟨⟨by decide, by decide, fun k hk => absurd hk (Nat.not_lt_zero _)⟩, ?_, ?_, by decide, fun h => absurd rfl h, by decide⟩, by decide, fun k _ _ => ⟨z _ (by omega), z _ (by omega)⟩⟩
  · unfold sOk
    decide
  · unfold fOk
    decide
theorem all_range {f : Nat → Bool} {n : Nat} (h : (List.range n).all f = true) {j : Nat} (hj : j < n) : f j = true := List.all_eq_true.mp h j (List.mem_range.mpr hj)
theorem PJ_00 : PJ 0 s00 := by
  have z : ∀ j, 20 ≤ j → s00 j = 0 := fun j h => by
    unfold s00
    rw [if_neg (by omega), if_neg (by omega), if_neg (by omega), if_neg (by omega), if_neg (by omega), if_neg (by omega), if_neg (by omega), if_neg (by omega)]
  exact ⟨by decide +kernel, by decide +kernel, by decide, by decide, fun p _ _ => ⟨z _ (by omega), z _ (by omega)⟩, fun h => absurd rfl h⟩
