/-! small numbers, sets as bits -/
def zn (k : Nat) : Int32 := Int32.ofNat k
theorem znt {k : Nat} (h : k < 2147483648) : (zn k).toInt = (k : Int) := Int32.toInt_ofNat_of_lt h
theorem zn_of {x : Int32} {k : Nat} (h : x.toInt = (k : Int)) : x = zn k := Int32.toInt_inj.mp (h.trans (znt (by have := x32_hi x; omega)).symm)
theorem zn_inj {a b : Nat} (h : zn a = zn b) (ha : a < 2147483648) (hb : b < 2147483648) : a = b := by
  have h1 := znt ha
  have h2 := znt hb
  rw [h] at h1
  omega
theorem zi1 : Int32.ofInt 1 = zI true := by decide
theorem zi0 : Int32.ofInt 0 = zI false := by decide
theorem zaddN {x y : Int32} {a b : Nat} (hx : x.toInt = (a : Int)) (hy : y.toInt = (b : Int)) (h : a + b < 2147483648) : x + y = zn (a + b) := zn_of (by
  rw [ti_add (by omega) (by omega), hx, hy]
  rfl)
theorem zsubN {x y : Int32} {a b : Nat} (hx : x.toInt = (a : Int)) (hy : y.toInt = (b : Int)) (h : b ≤ a) : x - y = zn (a - b) := zn_of (by
  have h1 := x32_hi x
  rw [ti_sub (by omega) (by omega), hx, hy]
  omega)
theorem zdecN {x : Int32} {a : Nat} (hx : x.toInt = (a : Int)) (h : 1 ≤ a) : x + Int32.ofInt (-1) = zn (a - 1) := zn_of (by
  have h1 := x32_hi x
  have h2 : (Int32.ofInt (-1)).toInt = -1 := by decide
  rw [ti_add (by omega) (by omega), hx, h2]
  omega)
theorem zmulN {x y : Int32} {a b : Nat} (hx : x.toInt = (a : Int)) (hy : y.toInt = (b : Int)) (ha : a ≤ 60) (hb : b ≤ 60) : (x * y).toInt = ((a * b : Nat) : Int) := by
  have h : a * b ≤ 60 * 60 := Nat.mul_le_mul ha hb
  have e : x.toInt * y.toInt = ((a * b : Nat) : Int) := by rw [hx, hy]; rfl
  rw [ti_mul (by rw [e]; omega) (by rw [e]; omega), e]
theorem zdivN {x y : Int32} {a b : Nat} (hx : x.toInt = (a : Int)) (hy : y.toInt = (b : Int)) (hb : 0 < b) : (x / y).toInt = ((a / b : Nat) : Int) := by
  rw [ti_div (by omega) (by omega), hx, hy]
  rfl
theorem zremN {x y : Int32} {a b : Nat} (hx : x.toInt = (a : Int)) (hy : y.toInt = (b : Int)) (hb : 0 < b) : (x - x / y * y).toInt = ((a % b : Nat) : Int) := by
  rw [ti_rem (by omega) (by omega), hx, hy]
  rfl
/-- bit k of a set of FIELDS, of PEOPLE -/
def zb (x : Int64) (k : Nat) : Bool := x.toBitVec.getLsbD k
def zd (x : Int32) (k : Nat) : Bool := x.toBitVec.getLsbD k
theorem zb_ext {x y : Int64} (h : ∀ k, k < 64 → zb x k = zb y k) : x = y := Int64.toBitVec_inj.mp (BitVec.eq_of_getLsbD_eq fun i hi => h i hi)
theorem zd_ext {x y : Int32} (h : ∀ k, k < 32 → zd x k = zd y k) : x = y := Int32.toBitVec_inj.mp (BitVec.eq_of_getLsbD_eq fun i hi => h i hi)
theorem zb_or (x y : Int64) (k : Nat) : zb (x ||| y) k = (zb x k || zb y k) := BitVec.getLsbD_or
theorem zb_and (x y : Int64) (k : Nat) : zb (x &&& y) k = (zb x k && zb y k) := BitVec.getLsbD_and
theorem zd_or (x y : Int32) (k : Nat) : zd (x ||| y) k = (zd x k || zd y k) := BitVec.getLsbD_or
theorem zd_and (x y : Int32) (k : Nat) : zd (x &&& y) k = (zd x k && zd y k) := BitVec.getLsbD_and
theorem zd_xor (x y : Int32) (k : Nat) : zd (x ^^^ y) k = (zd x k ^^ zd y k) := BitVec.getLsbD_xor
theorem zsh64 : ∀ k, k < 64 → (((zn k).toInt64 &&& 63).toBitVec.smod 64).toNat = k := by decide
theorem zsh32 : ∀ k, k < 32 → ((zn k &&& 31).toBitVec.smod 32).toNat = k := by decide
theorem zone64 : ∀ i, i < 64 → (1#64).getLsbD i = decide (i = 0) := by decide
theorem zb_shr {x : Int64} {k i : Nat} (hk : k < 64) (h : i + k < 64) : zb (x >>> ((zn k).toInt64 &&& 63)) i = zb x (k + i) := by
  have e : (x >>> ((zn k).toInt64 &&& 63)).toBitVec = x.toBitVec.sshiftRight (((zn k).toInt64 &&& 63).toBitVec.smod 64).toNat := rfl
  unfold zb
  rw [e, zsh64 k hk, BitVec.getLsbD_sshiftRight]
  have h1 : ¬ 64 ≤ i := by omega
  have h2 : k + i < 64 := by omega
  simp [h1, h2]
theorem zb_shl {x : Int64} {k i : Nat} (hk : k < 64) (hi : i < 64) : zb (x <<< ((zn k).toInt64 &&& 63)) i = (decide (k ≤ i) && zb x (i - k)) := by
  have e : (x <<< ((zn k).toInt64 &&& 63)).toBitVec = x.toBitVec <<< (((zn k).toInt64 &&& 63).toBitVec.smod 64).toNat := rfl
  unfold zb
  rw [e, zsh64 k hk, BitVec.getLsbD_shiftLeft]
  by_cases h : k ≤ i
  · have h1 : ¬ i < k := by omega
    simp [hi, h, h1]
  · have h1 : i < k := by omega
    simp [hi, h, h1]
theorem zd_shl {x : Int32} {k i : Nat} (hk : k < 32) (hi : i < 32) : zd (x <<< (zn k &&& 31)) i = (decide (k ≤ i) && zd x (i - k)) := by
  have e : (x <<< (zn k &&& 31)).toBitVec = x.toBitVec <<< ((zn k &&& 31).toBitVec.smod 32).toNat := rfl
  unfold zd
  rw [e, zsh32 k hk, BitVec.getLsbD_shiftLeft]
  by_cases h : k ≤ i
  · have h1 : ¬ i < k := by omega
    simp [hi, h, h1]
  · have h1 : i < k := by omega
    simp [hi, h, h1]
theorem zb_1 {i : Nat} (hi : i < 64) : zb 1 i = decide (i = 0) := zone64 i hi
theorem zb_bit {k i : Nat} (hk : k < 64) (hi : i < 64) : zb ((1 : Int64) <<< ((zn k).toInt64 &&& 63)) i = decide (i = k) := by
  rw [zb_shl hk hi]
  by_cases h : k ≤ i
  · rw [zb_1 (by omega)]
    by_cases e : i = k
    · subst e; simp
    · have : ¬ i - k = 0 := by omega
      simp [e, this]
  · have : ¬ i = k := by omega
    simp [h, this]
theorem zand1_64 (y : Int64) : (y &&& 1 = 1) ↔ zb y 0 = true := by
  constructor
  · intro h
    have h2 := zb_and y 1 0
    rw [h, zb_1 (by decide)] at h2
    simpa using h2.symm
  · intro h
    refine zb_ext fun k hk => ?_
    rw [zb_and, zb_1 hk]
    by_cases e : k = 0
    · subst e; simp [h]
    · simp [e]
theorem zL1 : Int64.ofNat kG1 = 1 := by decide
theorem zL0 : Int64.ofNat kG0 = 0 := by decide
/-- lcmp -/
theorem zcmp {x y : Int64} : (x.toInt < y.toInt ∧ (lg_cmp x y).toInt = -1) ∨ (x = y ∧ (lg_cmp x y).toInt = 0) ∨ (y.toInt < x.toInt ∧ (lg_cmp x y).toInt = 1) := by
  unfold lg_cmp
  rcases Int.lt_trichotomy x.toInt y.toInt with h | h | h
  · have n1 : ¬ x > y := fun q => by have := Int64.lt_iff_toInt_lt.mp q; omega
    have n2 : ¬ x = y := fun q => by rw [q] at h; omega
    rw [if_neg n1, if_neg n2]
    exact Or.inl ⟨h, by decide⟩
  · have e := Int64.toInt_inj.mp h
    have n1 : ¬ x > y := fun q => by have := Int64.lt_iff_toInt_lt.mp q; omega
    rw [if_neg n1, if_pos e]
    exact Or.inr (Or.inl ⟨e, by decide⟩)
  · have n1 : x > y := Int64.lt_iff_toInt_lt.mpr h
    rw [if_pos n1]
    exact Or.inr (Or.inr ⟨h, by decide⟩)
/-- (x >> k & 1) == 1 -/
theorem zhas {x : Int64} {k : Nat} (hk : k < 64) : (lg_cmp ((x >>> ((zn k).toInt64 &&& 63)) &&& Int64.ofNat kG1) (Int64.ofNat kG1)).toInt = 0 ↔ zb x k = true := by
  have h0 : zb (x >>> ((zn k).toInt64 &&& 63)) 0 = zb x k := zb_shr (i := 0) hk (by omega)
  rw [zL1]
  have h1 := zand1_64 (x >>> ((zn k).toInt64 &&& 63))
  rw [h0] at h1
  rcases @zcmp ((x >>> ((zn k).toInt64 &&& 63)) &&& 1) 1 with ⟨a, b⟩ | ⟨a, b⟩ | ⟨a, b⟩
  · rw [b]
    exact iff_of_false (by decide) (fun q => by rw [h1.mpr q] at a; omega)
  · rw [b]
    exact iff_of_true rfl (h1.mp a)
  · rw [b]
    exact iff_of_false (by decide) (fun q => by rw [h1.mpr q] at a; omega)
