/-! the reference reads -/
def TF (M M' : Mem) : Prop := (∀ o, o ≠ 106 → o ≠ 116 → M' o = M o) ∧ ∀ i, i ≠ 17 → i ≠ 21 → M' 106 i = M 106 i
def Tx (M : Mem) (len : Nat) (T : Nat → Nat) : Prop := M 106 6 = nI len ∧ (∀ j, j < len → M 111 j = nI (T j)) ∧ len ≤ 60 ∧ ∀ j, j < len → T j ≤ 126
theorem TF_r {M : Mem} : TF M M := ⟨fun _ _ _ => rfl, fun _ _ _ => rfl⟩
theorem TF_t {M N P : Mem} (h : TF M N) (k : TF N P) : TF M P := ⟨fun o a b => (k.1 o a b).trans (h.1 o a b), fun i a b => (k.2 i a b).trans (h.2 i a b)⟩
theorem Tx_f {M N : Mem} {len : Nat} {T : Nat → Nat} (h : Tx M len T) (k : TF M N) : Tx N len T := ⟨by rw [k.2 6 (by decide) (by decide)]; exact h.1, fun j hj => by rw [k.1 111 (by decide) (by decide)]; exact h.2.1 j hj, h.2.2⟩
def sgR (T : Nat → Nat) (len p : Nat) : Int32 := if p < len then nI (T p) else -1
section TXT
variable {σ : Sg} {len : Nat} {T : Nat → Nat}
theorem sg_dg {p : Nat} (hT : ∀ j, j < len → T j ≤ 126) : inI (sgR T len p) (nI 48) (nI 57) = nI (dg T len p) := by
  unfold sgR dg
  by_cases c : p < len
  · have := hT p c
    rw [if_pos c]
    by_cases c2 : 48 ≤ T p ∧ T p ≤ 57
    · rw [if_pos ⟨c, c2⟩]; exact inI_c (by omega) (by omega) c2.1 c2.2 rfl
    · rw [if_neg (fun h => c2 h.2)]; exact inI_o (by omega) (by omega) (by omega) (by omega)
  · rw [if_neg c, if_neg (fun h => c h.1)]; decide
theorem dg_le {p : Nat} : dg T len p ≤ 1 := by
  unfold dg
  split <;> omega
theorem sg_chr {p c : Nat} (hT : ∀ j, j < len → T j ≤ 126) (hc : c < 200) : (chr T len p c = 1 ∧ sgR T len p = nI c) ∨ (chr T len p c = 0 ∧ ¬ sgR T len p = nI c) := by
  unfold chr sgR
  by_cases h : p < len
  · have := hT p h
    rw [if_pos h]
    by_cases h2 : T p = c
    · left; rw [if_pos ⟨h, h2⟩, h2]; exact ⟨rfl, rfl⟩
    · right; rw [if_neg (fun q => h2 q.2)]; exact ⟨rfl, ne_n (by omega) (by omega) h2⟩
  · right
    rw [if_neg h, if_neg (fun q => h q.1)]
    exact ⟨rfl, fun e => ne_m1 (a := c) (by omega) e.symm⟩
end TXT
