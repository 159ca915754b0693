def aM (M : Mem) (d : Nat → Nat) : Mem := upM M 112 (cp 10 (nf d) (M 112))
theorem aM_at {M : Mem} {d : Nat → Nat} {j : Nat} (h : j < 10) : aM M d 112 j = nI (d j) := by
  show (upM M 112 (cp 10 (nf d) (M 112))) 112 j = _
  rw [upM_s]
  exact if_pos h
theorem aM_up {M : Mem} {d : Nat → Nat} {j x : Nat} (h : j < 10) : upM (aM M d) 112 (upI (aM M d 112) j (nI x)) = aM M (upN d j x) := by
  unfold aM
  rw [upM_s, upM_up]
  refine congrArg (upM M 112) (funext fun i => ?_)
  unfold upI cp nf upN
  by_cases c : i = j
  · rw [if_pos c, if_pos c, if_pos (by omega)]
  · rw [if_neg c, if_neg c]
theorem rds_le1 {s d : Nat → Nat} (h : ∀ p, d p ≤ 1000) (n p : Nat) : rds s d n p ≤ 1000 := Nat.le_trans (rds_le n) (h p)
def dist (s : Nat → Nat) (p : Nat) : Int32 := if Dr s (s 0) p < 1000 then nI (Dr s (s 0) p) else -1000000004
