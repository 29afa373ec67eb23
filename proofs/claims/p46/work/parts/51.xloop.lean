/-! The loop of the law of many calls: its test, the number of the call -/
section XLP
variable {xs : Nat → Int32} {N : Nat} {ph : pm_H} {c s : Nat} {al : Bool} {C : Nat → List Value → pm_H → pm_R → Prop}
/-- the law's variables in the loop: i, and what calls left in 5 to 7 -/
def kL2 (i : Int32) (a b d : Option Value) : List (Option Value) := [some (.ref 1048581), some (.ref 0), some (.ref 170), some (.ref 201), some (.int i), a, b, d]
theorem kL2_0 : kLL (Int32.ofInt 0) = kL2 (Int32.ofInt 0) none none none := rfl
theorem khead2 {i : Int32} {a b d : Option Value} (y : pm_S) {t : Nat} (ht : (bif decide (Int32.ofNat N - Int32.ofInt 5 < i) then 1454 else 32) = t) (kk : pm_Se (kK2 xs N) al C 0 (t, kL2 i a b d, [], ph, c, s) y) : pm_Se (kK2 xs N) al C 0 (23, kL2 i a b d, [], ph, c, s) y := by
  refine .step (ks2 (n := 2) (v := .int i) (kcL (e := (2, .iload 4, 0)) rfl) rfl) ?_
  refine .step (ks2 (n := 1) (v := .ref 1048581) (kcL (e := (2, .aload_n kF0, 0)) rfl) rfl) ?_
  refine .step (ks5 (n := 1) (c1 := 0) (s1 := 0) (st' := [.int (Int32.ofNat N), .int i]) (ph' := ph) (kcL (e := (5, .arraylength, 0)) rfl) rfl) ?_
  refine .step (ks0 (st' := [.int (Int32.ofInt 5), .int (Int32.ofNat N), .int i]) (kcL (e := (0, .iconst 5, 0)) rfl) rfl) ?_
  refine .step (ks0 (st' := [.int (Int32.ofNat N - Int32.ofInt 5), .int i]) (kcL (e := (0, .isub, 0)) rfl) rfl) ?_
  refine .step (ks4 (pc' := t) (st' := []) (kcL (e := (4, .if_icmp .gt 1425, 1454)) rfl) ?_) kk
  rw [← ht]
  rfl
/-- to the switch -/
theorem knum2 {i : Int32} {a b d : Option Value} (y : pm_S) (hi : pm_inb i N = true) (kk : pm_Se (kK2 xs N) al C 0 (39, kL2 i a b d, [.int (xs i.toNatClampNeg &&& (Int8.ofInt 63).toInt32)], ph, c, s) y) : pm_Se (kK2 xs N) al C 0 (32, kL2 i a b d, [], ph, c, s) y := by
  refine .step (ks2 (n := 1) (v := .ref 1048581) (kcL (e := (2, .aload_n kF0, 0)) rfl) rfl) ?_
  refine .step (ks2 (n := 2) (v := .int i) (kcL (e := (2, .iload 4, 0)) rfl) rfl) ?_
  refine .step (ks5 (n := 1) (c1 := 0) (s1 := 0) (st' := [.int (xs i.toNatClampNeg)]) (ph' := ph) (kcL (e := (5, .iaload, 0)) rfl) ?_) ?_
  · show (bif pm_inb i N then some (1, Value.int (xs i.toNatClampNeg) :: [], ph, 0, 0) else none) = _
    rw [hi]
    rfl
  refine .step (ks1 (n := 2) (v := .int (Int8.ofInt 63).toInt32) (kcL (e := (1, .bipush 63, 0)) rfl) rfl) ?_
  exact .step (ks0 (st' := [.int (xs i.toNatClampNeg &&& (Int8.ofInt 63).toInt32)]) (kcL (e := (0, .iand, 0)) rfl) rfl) kk
/-- the z-th number of the call, in any frame of the loop -/
theorem karg2 {i : Int32} {a b d : Option Value} {st : List Value} {pc : Nat} (y : pm_S) {z : Int} (hz : pm_inb (i + Int32.ofInt z) N = true) (h1 : pm_tl kc_L pc = some (2, .aload_n kF0, 0)) (h2 : pm_tl kc_L (pc + 1) = some (2, .iload 4, 0)) (h3 : pm_tl kc_L (pc + 3) = some (0, .iconst z, 0)) (h4 : pm_tl kc_L (pc + 4) = some (0, .iadd, 0)) (h5 : pm_tl kc_L (pc + 5) = some (5, .iaload, 0)) (kk : pm_Se (kK2 xs N) al C 0 (pc + 6, kL2 i a b d, .int (xs (i + Int32.ofInt z).toNatClampNeg) :: st, ph, c, s) y) : pm_Se (kK2 xs N) al C 0 (pc, kL2 i a b d, st, ph, c, s) y := by
  refine .step (ks2 (v := .ref 1048581) (n := 1) (kcL h1) rfl) ?_
  refine .step (ks2 (v := .int i) (n := 2) (kcL h2) rfl) ?_
  refine .step (ks0 (st' := .int (Int32.ofInt z) :: .int i :: .ref 1048581 :: st) (kcL h3) rfl) ?_
  refine .step (ks0 (st' := .int (i + Int32.ofInt z) :: .ref 1048581 :: st) (kcL h4) rfl) ?_
  refine .step (ks5 (n := 1) (c1 := 0) (s1 := 0) (st' := .int (xs (i + Int32.ofInt z).toNatClampNeg) :: st) (ph' := ph) (kcL h5) ?_) kk
  show (bif pm_inb (i + Int32.ofInt z) N then some (1, Value.int (xs (i + Int32.ofInt z).toNatClampNeg) :: st, ph, 0, 0) else none) = _
  rw [hz]
  rfl
end XLP
