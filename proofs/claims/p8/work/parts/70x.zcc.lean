/-! codes as the class writes them (of wip/z/z_j_csee.py) -/
/-- an act as the class writes it, a code as the class writes it -/
def zoc (a : Nat) : Int := if a = 0 then -60 else if a = 1 then -62 else if a = 2 then -61 else if a = 3 then -43 else if a = 4 then -45 else if a = 5 then -42 else -47
theorem zoc_b {a : Nat} : -62 ≤ zoc a ∧ zoc a ≤ -42 := by
  unfold zoc
  (repeat' split) <;> omega
theorem zoc_t {a : Nat} : (Int32.ofInt (zoc a)).toInt = zoc a := by
  have h := @zoc_b a
  exact Int32.toInt_ofInt_of_le (by omega) (by omega)
def zcc (c : Nat) : Int32 := if c < 2000 then zn c else if c = 3000 then Int32.ofInt (-109) else Int32.ofInt (zoc (c - 2000))
