/-! what looks answer, class and reference, by W; printed by wip/z/z3a_looks.py -/
def zXw (f : Nat → Int32) : Nat → Nat
  | 0 => 0
  | k + 1 => if (f (zXw f k)).toInt < (f (k + 1)).toInt then k + 1 else zXw f k
theorem zXw_le {f : Nat → Int32} {k : Nat} : zXw f k ≤ k := by
  induction k with
  | zero => exact Nat.le_refl _
  | succ k ih =>
    show (if (f (zXw f k)).toInt < (f (k + 1)).toInt then k + 1 else zXw f k) ≤ k + 1
    by_cases h : (f (zXw f k)).toInt < (f (k + 1)).toInt
    · rw [if_pos h]; exact Nat.le_refl _
    · rw [if_neg h]; omega