/-! More rows of a step: writes -/
section SY2
variable {K : pm_K} {al : Bool} {C : Nat → List Value → pm_H → pm_R → Prop} {mj pc aux : Nat} {ins : Instr} {L L' : List (Option Value)} {st st' : List Value} {ph ph' : pm_H} {c s : Nat} {x x' y : pm_S} {r : pm_R}
theorem sat_s {a : Nat} {z d : pm_C} (h : pm_at ph a = some d) : pm_at (ph.set a z) a = some z := by
  have h1 := sk_at h
  unfold pm_at at h ⊢
  cases hb : Nat.blt a 1048576 with
  | false => rw [hb] at h; cases h
  | true =>
    show (ph.set a z)[a]? = some z
    have h2 := (List.getElem?_eq_some_iff.mp h1).1
    rw [List.getElem?_set_self h2]
theorem sat_n {a b : Nat} {z d : pm_C} (hab : b ≠ a) (h : pm_at ph a = some d) : pm_at (ph.set b z) a = some d := by
  unfold pm_at at h ⊢
  rw [List.getElem?_set_ne hab]
  exact h
theorem skw {i ci k a : Nat} {v0 v : Value} {fs fs' q : List Value} (hc : pm_code K mj pc = some (5, .putfield i, aux)) (hl : pm_lnk K (pm_own K mj) i = some (6, ci, k, v0)) (ha : pm_at ph a = some (.inr (ci, fs))) (hs : fs.set k v = fs') (hf : (pm_fit (pm_fty K ci k) v && Nat.blt k fs.length) = true) : pm_step K al mj (pc, L, v :: .ref a :: q, ph, c, s) = some (.inl (pc + 3, L, q, ph.set a (.inr (ci, fs')), c, s)) := by
  subst hs
  refine (ks5 (n := 3) (c1 := 0) (s1 := 0) (st' := q) (ph' := ph.set a (.inr (ci, fs.set k v))) hc ?_).trans rfl
  have e : Nat.beq ci ci = true := by first | exact Nat.beq_refl _ | exact Nat.beq_refl | simp
  unfold pm_mem
  simp only [hl, ha, e, hf, Bool.true_and, cond_true]
theorem skas {a : Nat} {i x : Int32} {l l' : List Int32} {q : List Value} (hc : pm_code K mj pc = some (5, .iastore, aux)) (ha : pm_at ph a = some (.inl (0, .inl l))) (hu : pm_up l i x = some l') : pm_step K al mj (pc, L, .int x :: .int i :: .ref a :: q, ph, c, s) = some (.inl (pc + 1, L, q, ph.set a (.inl (0, .inl l')), c, s)) := by
  refine (ks5 (n := 1) (c1 := 0) (s1 := 0) (st' := q) (ph' := ph.set a (.inl (0, .inl l'))) hc ?_).trans rfl
  unfold pm_mem
  simp only [ha, hu]
theorem skal {a : Nat} {i x : Int32} {l : List Int32} {q : List Value} (hc : pm_code K mj pc = some (5, .iaload, aux)) (ha : pm_at ph a = some (.inl (0, .inl l))) (hu : pm_ix l i = some x) : pm_step K al mj (pc, L, .int i :: .ref a :: q, ph, c, s) = some (.inl (pc + 1, L, .int x :: q, ph, c, s)) := by
  refine (ks5 (n := 1) (c1 := 0) (s1 := 0) (st' := .int x :: q) (ph' := ph) hc ?_).trans rfl
  unfold pm_mem
  simp only [ha, hu]
theorem su_i {α : Type} {l : List α} {i : Int32} {k : Nat} (hi : i = fo_i k) (hk : k < 2147483648) : pm_ix l i = l[k]? := by
  subst hi
  rw [← fo_ix_eq]
  have e : fo_n (fo_i k) = k := by
    show (BitVec.ofNat 32 k).toNat = k
    rw [BitVec.toNat_ofNat]
    omega
  unfold fo_ix
  rw [e, fo_nth_eq]
  have h : Nat.blt k 2147483648 = true := Nat.ble_eq_true_of_le hk
  rw [h]
  rfl
theorem su_p {α : Type} {l : List α} {i : Int32} {k : Nat} {x y : α} (hi : i = fo_i k) (hk : k < 2147483648) (hl : l[k]? = some y) : pm_up l i x = some (l.set k x) := by
  have h1 : pm_ix l i = some y := (su_i hi hk).trans hl
  have e : i.toNatClampNeg = k := by
    have h0 : ¬ i < 0 := fun q => by
      unfold pm_ix at h1
      rw [decide_eq_true q] at h1
      cases h1
    rw [← fo_n_clamp h0, hi]
    show (BitVec.ofNat 32 k).toNat = k
    rw [BitVec.toNat_ofNat]
    omega
  unfold pm_up
  rw [h1]
  show some (l.set i.toNatClampNeg x) = _
  rw [e]
theorem skas0 {a k : Nat} {i x : Int32} {l : List Int32} {q : List Value} (hc : pm_code K mj pc = some (5, .iastore, aux)) (ha : pm_at ph a = some (.inl (0, .inl l))) (hi : i = fo_i k) (hk : k < 2147483648) (hl : l[k]? = some x) : pm_step K al mj (pc, L, .int x :: .int i :: .ref a :: q, ph, c, s) = some (.inl (pc + 1, L, q, ph, c, s)) := by
  have h := skas (al := al) (L := L) (q := q) (c := c) (s := s) hc ha (su_p hi hk hl (x := x))
  rw [sk_set hl] at h
  have e : ph.set a (.inl (0, .inl l)) = ph := sk_set (sk_at ha)
  rw [e] at h
  exact h
theorem skls {a : Nat} {i : Int32} {x : Int64} {l l' : List Int64} {q : List Value} (hc : pm_code K mj pc = some (5, .lastore, aux)) (ha : pm_at ph a = some (.inl (2, .inr (.inl l)))) (hu : pm_up l i x = some l') : pm_step K al mj (pc, L, .long x :: .int i :: .ref a :: q, ph, c, s) = some (.inl (pc + 1, L, q, ph.set a (.inl (2, .inr (.inl l'))), c, s)) := by
  refine (ks5 (n := 1) (c1 := 0) (s1 := 0) (st' := q) (ph' := ph.set a (.inl (2, .inr (.inl l')))) hc ?_).trans rfl
  unfold pm_mem
  simp only [ha, hu]
theorem skls0 {a k : Nat} {i : Int32} {x : Int64} {l : List Int64} {q : List Value} (hc : pm_code K mj pc = some (5, .lastore, aux)) (ha : pm_at ph a = some (.inl (2, .inr (.inl l)))) (hi : i = fo_i k) (hk : k < 2147483648) (hl : l[k]? = some x) : pm_step K al mj (pc, L, .long x :: .int i :: .ref a :: q, ph, c, s) = some (.inl (pc + 1, L, q, ph, c, s)) := by
  have h := skls (al := al) (L := L) (q := q) (c := c) (s := s) hc ha (su_p hi hk hl (x := x))
  rw [sk_set hl] at h
  have e : ph.set a (.inl (2, .inr (.inl l))) = ph := sk_set (sk_at ha)
  rw [e] at h
  exact h
theorem sa_irems {x y : Int32} {q : List Value} (h0 : decide (y = 0) = false) : pm_alu .irem (.int y :: .int x :: q) = some (.int (x - x / y * y) :: q) := by
  show (bif decide (y = 0) then none else some (Value.int (x - x / y * y) :: q)) = _
  rw [h0]
  rfl
theorem sa_iinc {i : Nat} {z : Int} {x w : Int32} {q : List Value} (hL : L[i]? = some (some (.int x))) (h : x + Int32.ofInt z = w) (hb : Nat.blt i L.length = true) (hs : pm_set L i (.int w) = L') : pm_store (.iinc i z) L q = some (L', q, 3) := by
  subst h
  subst hs
  show (match L[i]? with
    | some (some (.int x)) => bif Nat.blt i L.length then some (pm_set L i (.int (x + Int32.ofInt z)), q, 3) else none
    | _ => none) = _
  rw [hL]
  show (bif Nat.blt i L.length then some (pm_set L i (.int (x + Int32.ofInt z)), q, 3) else none) = _
  rw [hb]
  rfl
theorem skll {a : Nat} {i : Int32} {x : Int64} {l : List Int64} {q : List Value} (hc : pm_code K mj pc = some (5, .laload, aux)) (ha : pm_at ph a = some (.inl (2, .inr (.inl l)))) (hu : pm_ix l i = some x) : pm_step K al mj (pc, L, .int i :: .ref a :: q, ph, c, s) = some (.inl (pc + 1, L, .long x :: q, ph, c, s)) := by
  refine (ks5 (n := 1) (c1 := 0) (s1 := 0) (st' := .long x :: q) (ph' := ph) hc ?_).trans rfl
  unfold pm_mem
  simp only [ha, hu]
theorem sken0 {a : Nat} {x : Int32} {l : List Int32} {q : List Value} (hc : pm_code K mj pc = some (5, .arraylength, aux)) (ha : pm_at ph a = some (.inl (0, .inl l))) (hx : Int32.ofNat l.length = x) : pm_step K al mj (pc, L, .ref a :: q, ph, c, s) = some (.inl (pc + 1, L, .int x :: q, ph, c, s)) := by
  subst hx
  refine (ks5 (n := 1) (c1 := 0) (s1 := 0) (st' := .int (Int32.ofNat l.length) :: q) (ph' := ph) hc ?_).trans rfl
  unfold pm_mem
  simp only [ha]
  rfl
theorem sken2 {a : Nat} {x : Int32} {l : List Int64} {q : List Value} (hc : pm_code K mj pc = some (5, .arraylength, aux)) (ha : pm_at ph a = some (.inl (2, .inr (.inl l)))) (hx : Int32.ofNat l.length = x) : pm_step K al mj (pc, L, .ref a :: q, ph, c, s) = some (.inl (pc + 1, L, .int x :: q, ph, c, s)) := by
  subst hx
  refine (ks5 (n := 1) (c1 := 0) (s1 := 0) (st' := .int (Int32.ofNat l.length) :: q) (ph' := ph) hc ?_).trans rfl
  unfold pm_mem
  simp only [ha]
  rfl
theorem skmx {i a b : Nat} {v0 : Value} {x y z : Int32} {q : List Value} (hc : pm_code K mj pc = some (5, .invokestatic i, aux)) (hl : pm_lnk K (pm_own K mj) i = some (15, a, b, v0)) (hs : Nat.ble (q.map fun v => v.category).sum 8 = true) (hz : (if x < y then y else x) = z) : pm_step K al mj (pc, L, .int y :: .int x :: q, ph, c, s) = some (.inl (pc + 3, L, .int z :: q, ph, c, s)) := by
  subst hz
  refine (ks5 (n := 3) (c1 := 0) (s1 := 0) (st' := .int (if x < y then y else x) :: q) (ph' := ph) hc ?_).trans rfl
  unfold pm_mem
  simp only [hl, hs, cond_true]
theorem skmn {i a b : Nat} {v0 : Value} {x y z : Int32} {q : List Value} (hc : pm_code K mj pc = some (5, .invokestatic i, aux)) (hl : pm_lnk K (pm_own K mj) i = some (16, a, b, v0)) (hs : Nat.ble (q.map fun v => v.category).sum 8 = true) (hz : (if y < x then y else x) = z) : pm_step K al mj (pc, L, .int y :: .int x :: q, ph, c, s) = some (.inl (pc + 3, L, .int z :: q, ph, c, s)) := by
  subst hz
  refine (ks5 (n := 3) (c1 := 0) (s1 := 0) (st' := .int (if y < x then y else x) :: q) (ph' := ph) hc ?_).trans rfl
  unfold pm_mem
  simp only [hl, hs, cond_true]
theorem sa_ldiv {x y z : Int64} {q : List Value} (h0 : decide (y = 0) = false) (h : x / y = z) : pm_alu .ldiv (.long y :: .long x :: q) = some (.long z :: q) := by
  subst h
  show (bif decide (y = 0) then none else some (Value.long (x / y) :: q)) = _
  rw [h0]
  rfl
theorem sa_lrem {x y z : Int64} {q : List Value} (h0 : decide (y = 0) = false) (h : x - x / y * y = z) : pm_alu .lrem (.long y :: .long x :: q) = some (.long z :: q) := by
  subst h
  show (bif decide (y = 0) then none else some (Value.long (x - x / y * y) :: q)) = _
  rw [h0]
  rfl
theorem sa_lshl {x z : Int64} {y : Int32} {q : List Value} (h : x <<< (y.toInt64 &&& 63) = z) : pm_alu .lshl (.int y :: .long x :: q) = some (.long z :: q) := by
  subst h
  rfl
theorem sa_lshr {x z : Int64} {y : Int32} {q : List Value} (h : x >>> (y.toInt64 &&& 63) = z) : pm_alu .lshr (.int y :: .long x :: q) = some (.long z :: q) := by
  subst h
  rfl
theorem sa_lushr {x z : Int64} {y : Int32} {q : List Value} (h : (x.toUInt64 >>> (y.toInt64.toUInt64 &&& Int64.toUInt64 63)).toInt64 = z) : pm_alu .lushr (.int y :: .long x :: q) = some (.long z :: q) := by
  subst h
  rfl
theorem sa_l2i {x : Int64} {z : Int32} {q : List Value} (h : x.toInt32 = z) : pm_alu .l2i (.long x :: q) = some (.int z :: q) := by
  subst h
  rfl
theorem sa_lmul {x y z : Int64} {q : List Value} (h : x * y = z) : pm_alu .lmul (.long y :: .long x :: q) = some (.long z :: q) := by
  subst h
  rfl
theorem sa_ishl {x y z : Int32} {q : List Value} (h : x <<< (y &&& 31) = z) : pm_alu .ishl (.int y :: .int x :: q) = some (.int z :: q) := by
  subst h
  rfl
theorem sa_ishr {x y z : Int32} {q : List Value} (h : x >>> (y &&& 31) = z) : pm_alu .ishr (.int y :: .int x :: q) = some (.int z :: q) := by
  subst h
  rfl
theorem sa_iushr {x y z : Int32} {q : List Value} (h : (x.toUInt32 >>> (y.toUInt32 &&& Int32.toUInt32 31)).toInt32 = z) : pm_alu .iushr (.int y :: .int x :: q) = some (.int z :: q) := by
  subst h
  rfl
theorem sa_idiv {x y z : Int32} {q : List Value} (h0 : decide (y = 0) = false) (h : x / y = z) : pm_alu .idiv (.int y :: .int x :: q) = some (.int z :: q) := by
  subst h
  show (bif decide (y = 0) then none else some (Value.int (x / y) :: q)) = _
  rw [h0]
  rfl
theorem sa_irem {x y z : Int32} {q : List Value} (h0 : decide (y = 0) = false) (h : x - x / y * y = z) : pm_alu .irem (.int y :: .int x :: q) = some (.int z :: q) := by
  subst h
  show (bif decide (y = 0) then none else some (Value.int (x - x / y * y) :: q)) = _
  rw [h0]
  rfl
theorem sc_ge {x y : Int64} {a b : Int} (hx : x.toInt = a) (hy : y.toInt = b) (h : b ≤ a) : decide (lg_cmp x y < 0) = false := by
  by_cases h1 : x > y
  · have e : lg_cmp x y = 1 := by unfold lg_cmp; rw [if_pos h1]
    rw [e]
    decide +kernel
  · have h2 : x = y := Int64.toInt_inj.mp (by
      have h3 : ¬ y.toInt < x.toInt := fun q => h1 (Int64.lt_iff_toInt_lt.mpr q)
      omega)
    have e : lg_cmp x y = 0 := by unfold lg_cmp; rw [if_neg h1, if_pos h2]
    rw [e]
    decide +kernel
theorem sc_le {x y : Int64} {a b : Int} (hx : x.toInt = a) (hy : y.toInt = b) (h : a ≤ b) : decide (0 < lg_cmp x y) = false := by
  have h1 : ¬ x > y := fun q => by
    have := Int64.lt_iff_toInt_lt.mp q
    omega
  by_cases h2 : x = y
  · have e : lg_cmp x y = 0 := by unfold lg_cmp; rw [if_neg h1, if_pos h2]
    rw [e]
    decide +kernel
  · have e : lg_cmp x y = -1 := by unfold lg_cmp; rw [if_neg h1, if_neg h2]
    rw [e]
    decide +kernel
end SY2
