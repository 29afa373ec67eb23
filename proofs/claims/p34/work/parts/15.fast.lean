/-! FAST: blocks of a method's code as nested closures; what they come to, the pure machine comes to -/
abbrev fo_C : Type := Nat → List Value → pm_H → Option pm_R
abbrev fo_K : Type := Nat → List (Option Value) → List Value → pm_H → Nat → Nat → Option pm_R
abbrev fo_b : Type := fo_C → fo_K → List (Option Value) → List Value → pm_H → Nat → Nat → Option pm_R
noncomputable def fo_nth {α : Type} (l : List α) : Nat → Option α := List.rec (motive := fun _ => Nat → Option α) (fun _ => none) (fun a _ ih i => Nat.rec (motive := fun _ => Option α) (some a) (fun n _ => ih n) i) l
theorem fo_nth_eq {α : Type} : ∀ (l : List α) (i : Nat), fo_nth l i = l[i]? := by
  intro l
  induction l with
  | nil => intro i; exact (List.getElem?_nil).symm
  | cons a t ih =>
    intro i
    cases i with
    | zero => rfl
    | succ n => exact (ih n).trans (List.getElem?_cons_succ).symm
noncomputable def fo_upd {α : Type} (x : α) (l : List α) : Nat → List α := List.rec (motive := fun _ => Nat → List α) (fun _ => []) (fun a t ih i => Nat.rec (motive := fun _ => List α) (x :: t) (fun n _ => a :: ih n) i) l
theorem fo_upd_eq {α : Type} (x : α) : ∀ (l : List α) (i : Nat), fo_upd x l i = l.set i x := by
  intro l
  induction l with
  | nil => intro i; rfl
  | cons a t ih =>
    intro i
    cases i with
    | zero => rfl
    | succ n => exact congrArg (a :: ·) (ih n)
def fo_clr (a : Option Value) : Option Value := match a with
  | some (.long _) => none
  | some (.double _) => none
  | o => o
noncomputable def fo_fix (a : Option Value) (n : Nat) : Option Value := Nat.rec (motive := fun _ => Option Value) (fo_clr a) (fun _ _ => a) n
noncomputable def fo_lset (v : Value) (L : List (Option Value)) : Nat → List (Option Value) := List.rec (motive := fun _ => Nat → List (Option Value)) (fun _ => []) (fun a t ih i => Nat.rec (motive := fun _ => List (Option Value)) (some v :: t) (fun n _ => fo_fix a n :: ih n) i) L
theorem fo_lset_eq (v : Value) : ∀ (L : List (Option Value)) (i : Nat), fo_lset v L i = pm_set L i v := by
  intro L
  induction L with
  | nil =>
    intro i
    cases i with
    | zero => rfl
    | succ n => rfl
  | cons a t ih =>
    intro i
    cases i with
    | zero => rfl
    | succ n =>
      show fo_fix a n :: fo_lset v t n = _
      rw [ih]
      cases n with
      | zero =>
        show fo_clr a :: pm_set t 0 v = pm_set (a :: t) 1 v
        cases a with
        | none => rfl
        | some w => cases w <;> rfl
      | succ j =>
        show a :: pm_set t (j + 1) v = pm_set (a :: t) (j + 2) v
        unfold pm_set
        simp only [List.getElem?_cons_succ]
        generalize t[j]? = o
        cases o with
        | none => rfl
        | some w =>
          cases w with
          | none => rfl
          | some u => cases u <;> rfl
noncomputable def fo_has (L : List (Option Value)) (i : Nat) : Bool := match fo_nth L i with
  | some _ => true
  | none => false
theorem fo_has_lt {L : List (Option Value)} {i : Nat} (h : fo_has L i = true) : Nat.blt i L.length = true := by
  unfold fo_has at h
  rw [fo_nth_eq] at h
  split at h
  · next x hx => exact Nat.ble_eq_true_of_le (List.getElem?_eq_some_iff.mp hx).1
  · cases h
noncomputable def fo_at (ph : pm_H) (a : Nat) : Option pm_C := bif Nat.blt a 1048576 then fo_nth ph a else none
theorem fo_at_eq (ph : pm_H) (a : Nat) : fo_at ph a = pm_at ph a := by
  unfold fo_at pm_at
  rw [fo_nth_eq]
/-- a number of 32 bits as a natural one -/
def fo_n (x : Int32) : Nat := x.toBitVec.toNat
def fo_i (n : Nat) : Int32 := Int32.ofBitVec (BitVec.ofNat 32 n)
def fo_add (x y : Int32) : Int32 := fo_i (fo_n x + fo_n y)
def fo_mul (x y : Int32) : Int32 := fo_i (fo_n x * fo_n y)
def fo_sub (x y : Int32) : Int32 := fo_i (4294967296 - fo_n y + fo_n x)
theorem fo_add_eq (x y : Int32) : fo_add x y = x + y := by
  apply Int32.toBitVec_inj.mp
  apply BitVec.eq_of_toNat_eq
  simp [fo_add, fo_i, fo_n]
theorem fo_mul_eq (x y : Int32) : fo_mul x y = x * y := by
  apply Int32.toBitVec_inj.mp
  apply BitVec.eq_of_toNat_eq
  simp [fo_mul, fo_i, fo_n]
theorem fo_sub_eq (x y : Int32) : fo_sub x y = x - y := by
  apply Int32.toBitVec_inj.mp
  apply BitVec.eq_of_toNat_eq
  simp [fo_sub, fo_i, fo_n, BitVec.toNat_sub]
/-- comparing, by adding 2^31 -/
def fo_o (x : Int32) : Nat := (fo_n x + 2147483648) % 4294967296
def fo_lt (x y : Int32) : Bool := Nat.blt (fo_o x) (fo_o y)
def fo_le (x y : Int32) : Bool := Nat.ble (fo_o x) (fo_o y)
def fo_eq (x y : Int32) : Bool := Nat.beq (fo_n x) (fo_n y)
theorem fo_oi (x : Int32) : ((fo_o x : Nat) : Int) = x.toInt + 2147483648 := by
  have h1 : x.toInt = x.toBitVec.toInt := rfl
  have h2 := x.toBitVec.isLt
  unfold fo_o fo_n
  rw [h1, BitVec.toInt_eq_toNat_cond]
  split <;> omega
theorem fo_lt_eq (x y : Int32) : fo_lt x y = decide (x < y) := by
  have hx := fo_oi x
  have hy := fo_oi y
  have h : (fo_o x < fo_o y) ↔ x < y := by rw [Int32.lt_iff_toInt_lt]; omega
  unfold fo_lt
  cases hb : Nat.blt (fo_o x) (fo_o y) with
  | true => exact (decide_eq_true (h.mp (Nat.le_of_ble_eq_true hb))).symm
  | false =>
    refine (decide_eq_false fun q => ?_).symm
    have this : Nat.blt (fo_o x) (fo_o y) = true := Nat.ble_eq_true_of_le (h.mpr q)
    rw [hb] at this
    cases this
theorem fo_le_eq (x y : Int32) : fo_le x y = decide (x ≤ y) := by
  have hx := fo_oi x
  have hy := fo_oi y
  have h : (fo_o x ≤ fo_o y) ↔ x ≤ y := by rw [Int32.le_iff_toInt_le]; omega
  unfold fo_le
  cases hb : Nat.ble (fo_o x) (fo_o y) with
  | true => exact (decide_eq_true (h.mp (Nat.le_of_ble_eq_true hb))).symm
  | false =>
    refine (decide_eq_false fun q => ?_).symm
    have this : Nat.ble (fo_o x) (fo_o y) = true := Nat.ble_eq_true_of_le (h.mpr q)
    rw [hb] at this
    cases this
theorem fo_eq_eq (x y : Int32) : fo_eq x y = decide (x = y) := by
  unfold fo_eq
  cases hb : Nat.beq (fo_n x) (fo_n y) with
  | true =>
    refine (decide_eq_true ?_).symm
    exact Int32.toBitVec_inj.mp (BitVec.eq_of_toNat_eq (Nat.eq_of_beq_eq_true hb))
  | false =>
    refine (decide_eq_false fun q => ?_).symm
    subst q
    have this : Nat.beq (fo_n x) (fo_n x) = true := by first | exact Nat.beq_refl _ | exact Nat.beq_refl | simp
    rw [hb] at this
    cases this
/-- what an array holds at an index -/
noncomputable def fo_ix {α : Type} (l : List α) (i : Int32) : Option α := bif Nat.blt (fo_n i) 2147483648 then fo_nth l (fo_n i) else none
theorem fo_n_clamp {i : Int32} (h : ¬ i < 0) : fo_n i = i.toNatClampNeg := by
  have h0 : (0 : Int32).toInt = 0 := rfl
  have h2 : 0 ≤ i.toInt := by rw [Int32.lt_iff_toInt_lt] at h; omega
  have h1 := fo_oi i
  have h4 := i.toBitVec.isLt
  show fo_n i = i.toInt.toNat
  unfold fo_o fo_n at h1
  unfold fo_n
  omega
theorem fo_neg (i : Int32) : Nat.blt (fo_n i) 2147483648 = !decide (i < 0) := by
  have h0 : (0 : Int32).toInt = 0 := rfl
  have h1 := fo_oi i
  have h4 := i.toBitVec.isLt
  have h : fo_n i < 2147483648 ↔ ¬ i < 0 := by
    rw [Int32.lt_iff_toInt_lt, h0]
    unfold fo_o fo_n at h1
    unfold fo_n
    omega
  cases hb : Nat.blt (fo_n i) 2147483648 with
  | true => rw [decide_eq_false (h.mp (Nat.le_of_ble_eq_true hb))]; rfl
  | false =>
    have h5 : i < 0 := by
      refine Classical.byContradiction fun q => ?_
      have this : Nat.blt (fo_n i) 2147483648 = true := Nat.ble_eq_true_of_le (h.mpr q)
      rw [hb] at this
      cases this
    rw [decide_eq_true h5]
    rfl
theorem fo_ix_eq {α : Type} (l : List α) (i : Int32) : fo_ix l i = pm_ix l i := by
  unfold fo_ix pm_ix
  rw [fo_neg]
  by_cases h : i < 0
  · rw [decide_eq_true h]; rfl
  · rw [decide_eq_false h, fo_n_clamp h, fo_nth_eq]; rfl
noncomputable def fo_up {α : Type} (l : List α) (i : Int32) (x : α) : Option (List α) := match fo_ix l i with
  | some _ => some (fo_upd x l (fo_n i))
  | none => none
theorem fo_up_eq {α : Type} (l : List α) (i : Int32) (x : α) : fo_up l i x = pm_up l i x := by
  unfold fo_up pm_up
  rw [fo_ix_eq]
  cases h : pm_ix l i with
  | none => rfl
  | some y =>
    have h2 : ¬ i < 0 := by
      intro q
      unfold pm_ix at h
      rw [decide_eq_true q] at h
      cases h
    show some _ = some _
    rw [fo_upd_eq, fo_n_clamp h2]
/-! what a block must give -/
def fo_ok (K : pm_K) (mj pc : Nat) (f : fo_b) : Prop := ∀ (C : fo_C) (k : fo_K) (r : pm_R), (∀ pc L st ph c s, k pc L st ph c s = some r → ∃ N, pm_run K false C mj N (pc, L, st, ph, c, s) = some r) → ∀ L st ph c s, f C k L st ph c s = some r → ∃ N, pm_run K false C mj N (pc, L, st, ph, c, s) = some r
section FO
variable {K : pm_K} {C : fo_C} {mj pc aux : Nat} {ins : Instr} {L L' : List (Option Value)} {st st' : List Value} {ph ph' : pm_H} {c s : Nat} {r : pm_R} {g : fo_b}
theorem fo_go {x x' : pm_S} (h : pm_step K false mj x = some (.inl x')) (h2 : ∃ N, pm_run K false C mj N x' = some r) : ∃ N, pm_run K false C mj N x = some r := by
  obtain ⟨N, hN⟩ := h2
  exact ⟨N + 1, by rw [pm_run, h]; exact hN⟩
theorem fo_s0 (hc : pm_code K mj pc = some (0, ins, aux)) (h : pm_alu ins st = some st') : pm_step K false mj (pc, L, st, ph, c, s) = some (.inl (pc + 1, L, st', ph, c, s)) := by
  unfold pm_step
  simp only [hc, h]
theorem fo_s1 {v : Value} {n : Nat} (hc : pm_code K mj pc = some (1, ins, aux)) (h : pm_push K (pm_own K mj) ins = some (v, n)) : pm_step K false mj (pc, L, st, ph, c, s) = some (.inl (pc + n, L, v :: st, ph, c, s)) := by
  unfold pm_step
  simp only [hc, h]
theorem fo_s2 {v : Value} {n : Nat} (hc : pm_code K mj pc = some (2, ins, aux)) (h : pm_load ins L = some (v, n)) : pm_step K false mj (pc, L, st, ph, c, s) = some (.inl (pc + n, L, v :: st, ph, c, s)) := by
  unfold pm_step
  simp only [hc, h]
theorem fo_s3 {n : Nat} (hc : pm_code K mj pc = some (3, ins, aux)) (h : pm_store ins L st = some (L', st', n)) : pm_step K false mj (pc, L, st, ph, c, s) = some (.inl (pc + n, L', st', ph, c, s)) := by
  unfold pm_step
  simp only [hc, h]
theorem fo_s4 {pc' : Nat} (hc : pm_code K mj pc = some (4, ins, aux)) (h : pm_br ins aux pc st = some (pc', st')) : pm_step K false mj (pc, L, st, ph, c, s) = some (.inl (pc', L, st', ph, c, s)) := by
  unfold pm_step
  simp only [hc, h]
theorem fo_s5 {n c1 s1 : Nat} (hc : pm_code K mj pc = some (5, ins, aux)) (h : pm_mem K false (pm_own K mj) ins st ph = some (n, st', ph', c1, s1)) : pm_step K false mj (pc, L, st, ph, c, s) = some (.inl (pc + n, L, st', ph', c + c1, s + s1)) := by
  unfold pm_step
  simp only [hc, h]
theorem fo_call {j : Nat} {as r0 : List Value} {v : Option Value} {c1 s1 : Nat} (hc : pm_code K mj pc = some (6, ins, aux)) (h : pm_inv K (pm_own K mj) ins st ph = some (j, as, r0)) (hC : C j as ph = some (v, ph', c1, s1)) (h2 : ∃ N, pm_run K false C mj N (pc + 3, L, v.toList ++ r0, ph', c + c1, s + s1) = some r) : ∃ N, pm_run K false C mj N (pc, L, st, ph, c, s) = some r := by
  obtain ⟨N, hN⟩ := h2
  refine ⟨N + 1, ?_⟩
  rw [pm_run]
  have e : pm_step K false mj (pc, L, st, ph, c, s) = some (.inr (.inl (j, as, (pc + 3, L, r0, ph, c, s)))) := by
    unfold pm_step
    simp only [hc, h]
  simp only [e, hC]
  exact hN
theorem fo_end {v : Option Value} (hc : pm_code K mj pc = some (7, ins, aux)) (h : pm_ret (pm_sig K mj).2.2 ins st = some v) : ∃ N, pm_run K false C mj N (pc, L, st, ph, c, s) = some (v, ph, c, s) := by
  refine ⟨1, ?_⟩
  rw [pm_run]
  have e : pm_step K false mj (pc, L, st, ph, c, s) = some (.inr (.inr v)) := by
    unfold pm_step
    simp only [hc, h]
  simp only [e]
/-! the pieces -/
def fo_j (t : Nat) : fo_b := fun _ k L st ph c s => k t L st ph c s
theorem fo_j_ok : fo_ok K mj pc (fo_j pc) := fun _ _ _ hk _ _ _ _ _ h => hk _ _ _ _ _ _ h
def fo_push (v : Value) (g : fo_b) : fo_b := fun C k L st ph c s => g C k L (v :: st) ph c s
theorem fo_push0_ok {v : Value} (hc : pm_code K mj pc = some (0, ins, aux)) (hv : ∀ r, pm_alu ins r = some (v :: r)) (hg : fo_ok K mj (pc + 1) g) : fo_ok K mj pc (fo_push v g) := fun C k r hk L st ph c s h => fo_go (fo_s0 hc (hv st)) (hg C k r hk _ _ _ _ _ h)
theorem fo_push1_ok {v : Value} (n : Nat) (hc : pm_code K mj pc = some (1, ins, aux)) (hv : pm_push K (pm_own K mj) ins = some (v, n)) (hg : fo_ok K mj (pc + n) g) : fo_ok K mj pc (fo_push v g) := fun C k r hk L st ph c s h => fo_go (fo_s1 hc hv) (hg C k r hk _ _ _ _ _ h)
noncomputable def fo_il (i : Nat) (g : fo_b) : fo_b := fun C k L st ph c s => match fo_nth L i with
  | some (some (.int x)) => g C k L (.int x :: st) ph c s
  | _ => none
theorem fo_il_ok {i : Nat} (n : Nat) (hc : pm_code K mj pc = some (2, ins, aux)) (hv : ∀ L x, L[i]? = some (some (.int x)) → pm_load ins L = some (.int x, n)) (hg : fo_ok K mj (pc + n) g) : fo_ok K mj pc (fo_il i g) := by
  intro C k r hk L st ph c s h
  unfold fo_il at h
  split at h
  · next x hx => exact fo_go (fo_s2 hc (hv L x (by rw [← fo_nth_eq]; exact hx))) (hg C k r hk _ _ _ _ _ h)
  · cases h
noncomputable def fo_ll (i : Nat) (g : fo_b) : fo_b := fun C k L st ph c s => match fo_nth L i with
  | some (some (.long x)) => g C k L (.long x :: st) ph c s
  | _ => none
theorem fo_ll_ok {i : Nat} (n : Nat) (hc : pm_code K mj pc = some (2, ins, aux)) (hv : ∀ L x, L[i]? = some (some (.long x)) → pm_load ins L = some (.long x, n)) (hg : fo_ok K mj (pc + n) g) : fo_ok K mj pc (fo_ll i g) := by
  intro C k r hk L st ph c s h
  unfold fo_ll at h
  split at h
  · next x hx => exact fo_go (fo_s2 hc (hv L x (by rw [← fo_nth_eq]; exact hx))) (hg C k r hk _ _ _ _ _ h)
  · cases h
noncomputable def fo_al (i : Nat) (g : fo_b) : fo_b := fun C k L st ph c s => match fo_nth L i with
  | some (some (.ref x)) => g C k L (.ref x :: st) ph c s
  | _ => none
theorem fo_al_ok {i : Nat} (n : Nat) (hc : pm_code K mj pc = some (2, ins, aux)) (hv : ∀ L x, L[i]? = some (some (.ref x)) → pm_load ins L = some (.ref x, n)) (hg : fo_ok K mj (pc + n) g) : fo_ok K mj pc (fo_al i g) := by
  intro C k r hk L st ph c s h
  unfold fo_al at h
  split at h
  · next x hx => exact fo_go (fo_s2 hc (hv L x (by rw [← fo_nth_eq]; exact hx))) (hg C k r hk _ _ _ _ _ h)
  · cases h
noncomputable def fo_is (i : Nat) (g : fo_b) : fo_b := fun C k L st ph c s => match st with
  | .int x :: r => bif fo_has L i then g C k (fo_lset (.int x) L i) r ph c s else none
  | _ => none
theorem fo_bifn {α : Type} {b : Bool} {x : Option α} {y : α} (h : (bif b then x else none) = some y) : b = true ∧ x = some y := by
  cases b with
  | false => cases h
  | true => exact ⟨rfl, h⟩
theorem fo_is_ok {i : Nat} (n : Nat) (hc : pm_code K mj pc = some (3, ins, aux)) (hv : ∀ L x r, Nat.blt i L.length = true → pm_store ins L (.int x :: r) = some (pm_set L i (.int x), r, n)) (hg : fo_ok K mj (pc + n) g) : fo_ok K mj pc (fo_is i g) := by
  intro C k r hk L st ph c s h
  unfold fo_is at h
  split at h
  · next x r0 =>
    obtain ⟨h1, h2⟩ := fo_bifn h
    rw [fo_lset_eq] at h2
    exact fo_go (fo_s3 hc (hv L x r0 (fo_has_lt h1))) (hg C k r hk _ _ _ _ _ h2)
  · cases h
noncomputable def fo_as (i : Nat) (g : fo_b) : fo_b := fun C k L st ph c s => match st with
  | .ref x :: r => bif fo_has L i then g C k (fo_lset (.ref x) L i) r ph c s else none
  | _ => none
theorem fo_as_ok {i : Nat} (n : Nat) (hc : pm_code K mj pc = some (3, ins, aux)) (hv : ∀ L x r, Nat.blt i L.length = true → pm_store ins L (.ref x :: r) = some (pm_set L i (.ref x), r, n)) (hg : fo_ok K mj (pc + n) g) : fo_ok K mj pc (fo_as i g) := by
  intro C k r hk L st ph c s h
  unfold fo_as at h
  split at h
  · next x r0 =>
    obtain ⟨h1, h2⟩ := fo_bifn h
    rw [fo_lset_eq] at h2
    exact fo_go (fo_s3 hc (hv L x r0 (fo_has_lt h1))) (hg C k r hk _ _ _ _ _ h2)
  · cases h
noncomputable def fo_ls (i : Nat) (g : fo_b) : fo_b := fun C k L st ph c s => match st with
  | .long x :: r => bif fo_has L (i + 1) then g C k (fo_upd none (fo_lset (.long x) L i) (i + 1)) r ph c s else none
  | _ => none
theorem fo_ls_ok {i : Nat} (n : Nat) (hc : pm_code K mj pc = some (3, ins, aux)) (hv : ∀ L x r, Nat.blt (i + 1) L.length = true → pm_store ins L (.long x :: r) = some ((pm_set L i (.long x)).set (i + 1) none, r, n)) (hg : fo_ok K mj (pc + n) g) : fo_ok K mj pc (fo_ls i g) := by
  intro C k r hk L st ph c s h
  unfold fo_ls at h
  split at h
  · next x r0 =>
    obtain ⟨h1, h2⟩ := fo_bifn h
    rw [fo_upd_eq, fo_lset_eq] at h2
    exact fo_go (fo_s3 hc (hv L x r0 (fo_has_lt h1))) (hg C k r hk _ _ _ _ _ h2)
  · cases h
noncomputable def fo_inc (i : Nat) (d : Int32) (g : fo_b) : fo_b := fun C k L st ph c s => match fo_nth L i with
  | some (some (.int x)) => g C k (fo_lset (.int (fo_add x d)) L i) st ph c s
  | _ => none
theorem fo_inc_ok {i : Nat} {d : Int32} {z : Int} (hc : pm_code K mj pc = some (3, .iinc i z, aux)) (hd : Int32.ofInt z = d) (hg : fo_ok K mj (pc + 3) g) : fo_ok K mj pc (fo_inc i d g) := by
  intro C k r hk L st ph c s h
  unfold fo_inc at h
  split at h
  · next x hx =>
    rw [fo_nth_eq] at hx
    rw [fo_lset_eq, fo_add_eq] at h
    refine fo_go (fo_s3 hc ?_) (hg C k r hk _ _ _ _ _ h)
    show (match L[i]? with
      | some (some (.int x)) => bif Nat.blt i L.length then some (pm_set L i (.int (x + Int32.ofInt z)), st, 3) else none
      | _ => none) = _
    have hlt : Nat.blt i L.length = true := Nat.ble_eq_true_of_le (List.getElem?_eq_some_iff.mp hx).1
    simp only [hx, hd, hlt, cond_true]
  · cases h
def fo_bin (f : Int32 → Int32 → Int32) (g : fo_b) : fo_b := fun C k L st ph c s => match st with
  | .int y :: .int x :: r => g C k L (.int (f x y) :: r) ph c s
  | _ => none
theorem fo_bin_ok {f : Int32 → Int32 → Int32} (hc : pm_code K mj pc = some (0, ins, aux)) (hv : ∀ x y r, pm_alu ins (.int y :: .int x :: r) = some (.int (f x y) :: r)) (hg : fo_ok K mj (pc + 1) g) : fo_ok K mj pc (fo_bin f g) := by
  intro C k r hk L st ph c s h
  unfold fo_bin at h
  split at h
  · next y x r0 => exact fo_go (fo_s0 hc (hv x y r0)) (hg C k r hk _ _ _ _ _ h)
  · cases h
def fo_un (f : Int32 → Value) (g : fo_b) : fo_b := fun C k L st ph c s => match st with
  | .int x :: r => g C k L (f x :: r) ph c s
  | _ => none
theorem fo_un_ok {f : Int32 → Value} (hc : pm_code K mj pc = some (0, ins, aux)) (hv : ∀ x r, pm_alu ins (.int x :: r) = some (f x :: r)) (hg : fo_ok K mj (pc + 1) g) : fo_ok K mj pc (fo_un f g) := by
  intro C k r hk L st ph c s h
  unfold fo_un at h
  split at h
  · next x r0 => exact fo_go (fo_s0 hc (hv x r0)) (hg C k r hk _ _ _ _ _ h)
  · cases h
def fo_div (f : Int32 → Int32 → Int32) (g : fo_b) : fo_b := fun C k L st ph c s => match st with
  | .int y :: .int x :: r => bif fo_eq y 0 then none else g C k L (.int (f x y) :: r) ph c s
  | _ => none
theorem fo_div_ok {f : Int32 → Int32 → Int32} (hc : pm_code K mj pc = some (0, ins, aux)) (hv : ∀ x y r, pm_alu ins (.int y :: .int x :: r) = bif decide (y = 0) then none else some (.int (f x y) :: r)) (hg : fo_ok K mj (pc + 1) g) : fo_ok K mj pc (fo_div f g) := by
  intro C k r hk L st ph c s h
  unfold fo_div at h
  split at h
  · next y x r0 =>
    rw [fo_eq_eq] at h
    cases hb : decide (y = 0) with
    | true => rw [hb] at h; cases h
    | false =>
      rw [hb] at h
      exact fo_go (fo_s0 hc (by simp only [hv, hb, cond_false])) (hg C k r hk _ _ _ _ _ h)
  · cases h
def fo_lbin (f : Int64 → Int64 → Value) (g : fo_b) : fo_b := fun C k L st ph c s => match st with
  | .long y :: .long x :: r => g C k L (f x y :: r) ph c s
  | _ => none
theorem fo_lbin_ok {f : Int64 → Int64 → Value} (hc : pm_code K mj pc = some (0, ins, aux)) (hv : ∀ x y r, pm_alu ins (.long y :: .long x :: r) = some (f x y :: r)) (hg : fo_ok K mj (pc + 1) g) : fo_ok K mj pc (fo_lbin f g) := by
  intro C k r hk L st ph c s h
  unfold fo_lbin at h
  split at h
  · next y x r0 => exact fo_go (fo_s0 hc (hv x y r0)) (hg C k r hk _ _ _ _ _ h)
  · cases h
def fo_lun (f : Int64 → Value) (g : fo_b) : fo_b := fun C k L st ph c s => match st with
  | .long x :: r => g C k L (f x :: r) ph c s
  | _ => none
theorem fo_lun_ok {f : Int64 → Value} (hc : pm_code K mj pc = some (0, ins, aux)) (hv : ∀ x r, pm_alu ins (.long x :: r) = some (f x :: r)) (hg : fo_ok K mj (pc + 1) g) : fo_ok K mj pc (fo_lun f g) := by
  intro C k r hk L st ph c s h
  unfold fo_lun at h
  split at h
  · next x r0 => exact fo_go (fo_s0 hc (hv x r0)) (hg C k r hk _ _ _ _ _ h)
  · cases h
def fo_lsh (f : Int64 → Int32 → Int64) (g : fo_b) : fo_b := fun C k L st ph c s => match st with
  | .int y :: .long x :: r => g C k L (.long (f x y) :: r) ph c s
  | _ => none
theorem fo_lsh_ok {f : Int64 → Int32 → Int64} (hc : pm_code K mj pc = some (0, ins, aux)) (hv : ∀ x y r, pm_alu ins (.int y :: .long x :: r) = some (.long (f x y) :: r)) (hg : fo_ok K mj (pc + 1) g) : fo_ok K mj pc (fo_lsh f g) := by
  intro C k r hk L st ph c s h
  unfold fo_lsh at h
  split at h
  · next y x r0 => exact fo_go (fo_s0 hc (hv x y r0)) (hg C k r hk _ _ _ _ _ h)
  · cases h
/-- any other piece of group 0 -/
def fo_alu (ins : Instr) (g : fo_b) : fo_b := fun C k L st ph c s => match pm_alu ins st with
  | some st' => g C k L st' ph c s
  | none => none
theorem fo_alu_ok (hc : pm_code K mj pc = some (0, ins, aux)) (hg : fo_ok K mj (pc + 1) g) : fo_ok K mj pc (fo_alu ins g) := by
  intro C k r hk L st ph c s h
  unfold fo_alu at h
  split at h
  · next st' hx => exact fo_go (fo_s0 hc hx) (hg C k r hk _ _ _ _ _ h)
  · cases h
def fo_goto (t : Nat) : fo_b := fun _ k L st ph c s => k t L st ph c s
theorem fo_goto_ok {o : Int} (hc : pm_code K mj pc = some (4, .goto o, aux)) : fo_ok K mj pc (fo_goto aux) := fun _ _ _ hk _ _ _ _ _ h => fo_go (fo_s4 hc rfl) (hk _ _ _ _ _ _ h)
def fo_ic (p : Int32 → Int32 → Bool) (t : Nat) (g : fo_b) : fo_b := fun C k L st ph c s => match st with
  | .int y :: .int x :: r => bif p x y then k t L r ph c s else g C k L r ph c s
  | _ => none
theorem fo_ic_ok {p : Int32 → Int32 → Bool} (hc : pm_code K mj pc = some (4, ins, aux)) (hv : ∀ x y r, pm_br ins aux pc (.int y :: .int x :: r) = some (bif p x y then aux else pc + 3, r)) (hg : fo_ok K mj (pc + 3) g) : fo_ok K mj pc (fo_ic p aux g) := by
  intro C k r hk L st ph c s h
  unfold fo_ic at h
  split at h
  · next y x r0 =>
    cases hb : p x y with
    | true =>
      rw [hb] at h
      exact fo_go (fo_s4 (pc' := aux) hc (by simp only [hv, hb, cond_true])) (hk _ _ _ _ _ _ h)
    | false =>
      rw [hb] at h
      exact fo_go (fo_s4 (pc' := pc + 3) hc (by simp only [hv, hb, cond_false])) (hg C k r hk _ _ _ _ _ h)
  · cases h
def fo_iz (p : Int32 → Bool) (t : Nat) (g : fo_b) : fo_b := fun C k L st ph c s => match st with
  | .int x :: r => bif p x then k t L r ph c s else g C k L r ph c s
  | _ => none
theorem fo_iz_ok {p : Int32 → Bool} (hc : pm_code K mj pc = some (4, ins, aux)) (hv : ∀ x r, pm_br ins aux pc (.int x :: r) = some (bif p x then aux else pc + 3, r)) (hg : fo_ok K mj (pc + 3) g) : fo_ok K mj pc (fo_iz p aux g) := by
  intro C k r hk L st ph c s h
  unfold fo_iz at h
  split at h
  · next x r0 =>
    cases hb : p x with
    | true =>
      rw [hb] at h
      exact fo_go (fo_s4 (pc' := aux) hc (by simp only [hv, hb, cond_true])) (hk _ _ _ _ _ _ h)
    | false =>
      rw [hb] at h
      exact fo_go (fo_s4 (pc' := pc + 3) hc (by simp only [hv, hb, cond_false])) (hg C k r hk _ _ _ _ _ h)
  · cases h
/-- any other branch -/
def fo_br (ins : Instr) (aux pc : Nat) : fo_b := fun _ k L st ph c s => match pm_br ins aux pc st with
  | some (pc', st') => k pc' L st' ph c s
  | none => none
theorem fo_br_ok (hc : pm_code K mj pc = some (4, ins, aux)) : fo_ok K mj pc (fo_br ins aux pc) := by
  intro C k r hk L st ph c s h
  unfold fo_br at h
  split at h
  · next pc' st' hx => exact fo_go (fo_s4 hc hx) (hk _ _ _ _ _ _ h)
  · cases h
/-- fields -/
noncomputable def fo_gf (ci kk : Nat) (g : fo_b) : fo_b := fun C k L st ph c s => match st with
  | .ref a :: r => (match fo_at ph a with
      | some (.inr (cj, fs)) => bif Nat.beq ci cj then (match fo_nth fs kk with
          | some v => g C k L (v :: r) ph c s
          | none => none) else none
      | _ => none)
  | _ => none
theorem fo_gf_ok {i ci kk b : Nat} {v0 : Value} (hc : pm_code K mj pc = some (5, .getfield i, aux)) (hl : pm_lnk K (pm_own K mj) i = some (6, ci, kk, v0)) (hg : fo_ok K mj (pc + 3) g) : fo_ok K mj pc (fo_gf ci kk g) := by
  intro C k r hk L st ph c s h
  unfold fo_gf at h
  split at h
  · next a r0 =>
    split at h
    · next cj fs hx =>
      obtain ⟨h1, h2⟩ := fo_bifn h
      split at h2
      · next v hv =>
        rw [fo_at_eq] at hx
        rw [fo_nth_eq] at hv
        refine fo_go (fo_s5 (n := 3) (st' := v :: r0) (ph' := ph) (c1 := 0) (s1 := 0) hc ?_) (hg C k r hk _ _ _ _ _ h2)
        unfold pm_mem
        simp only [hl, hx, h1, hv, cond_true]
      · cases h2
    · cases h
  · cases h
noncomputable def fo_pf (ci kk : Nat) (ty : FieldType) (g : fo_b) : fo_b := fun C k L st ph c s => match st with
  | v :: .ref a :: r => (match fo_at ph a with
      | some (.inr (cj, fs)) => bif Nat.beq ci cj && (pm_fit ty v && Nat.blt kk fs.length) then g C k L r (fo_upd (.inr (cj, fo_upd v fs kk)) ph a) c s else none
      | _ => none)
  | _ => none
theorem fo_pf_ok {i ci kk : Nat} {ty : FieldType} {v0 : Value} (hc : pm_code K mj pc = some (5, .putfield i, aux)) (hl : pm_lnk K (pm_own K mj) i = some (6, ci, kk, v0)) (ht : pm_fty K ci kk = ty) (hg : fo_ok K mj (pc + 3) g) : fo_ok K mj pc (fo_pf ci kk ty g) := by
  intro C k r hk L st ph c s h
  unfold fo_pf at h
  split at h
  · next v a r0 =>
    split at h
    · next cj fs hx =>
      obtain ⟨h1, h2⟩ := fo_bifn h
      rw [fo_at_eq] at hx
      rw [fo_upd_eq, fo_upd_eq] at h2
      refine fo_go (fo_s5 (n := 3) (st' := r0) (c1 := 0) (s1 := 0) hc ?_) (hg C k r hk _ _ _ _ _ h2)
      unfold pm_mem
      simp only [hl, hx, ht, h1, cond_true]
    · cases h
  · cases h
/-- arrays -/
noncomputable def fo_ial (g : fo_b) : fo_b := fun C k L st ph c s => match st with
  | .int i :: .ref a :: r => (match fo_at ph a with
      | some (.inl (0, .inl l)) => (match fo_ix l i with
          | some x => g C k L (.int x :: r) ph c s
          | none => none)
      | _ => none)
  | _ => none
theorem fo_ial_ok (hc : pm_code K mj pc = some (5, .iaload, aux)) (hg : fo_ok K mj (pc + 1) g) : fo_ok K mj pc (fo_ial g) := by
  intro C k r hk L st ph c s h
  unfold fo_ial at h
  split at h
  · next i a r0 =>
    split at h
    · next l hx =>
      split at h
      · next x hi =>
        rw [fo_at_eq] at hx
        rw [fo_ix_eq] at hi
        refine fo_go (fo_s5 (n := 1) (st' := .int x :: r0) (ph' := ph) (c1 := 0) (s1 := 0) hc ?_) (hg C k r hk _ _ _ _ _ h)
        unfold pm_mem
        simp only [hx, hi]
      · cases h
    · cases h
  · cases h
noncomputable def fo_bal (g : fo_b) : fo_b := fun C k L st ph c s => match st with
  | .int i :: .ref a :: r => (match fo_at ph a with
      | some (.inl (1, .inl l)) => (match fo_ix l i with
          | some x => g C k L (.int x :: r) ph c s
          | none => none)
      | _ => none)
  | _ => none
theorem fo_bal_ok (hc : pm_code K mj pc = some (5, .baload, aux)) (hg : fo_ok K mj (pc + 1) g) : fo_ok K mj pc (fo_bal g) := by
  intro C k r hk L st ph c s h
  unfold fo_bal at h
  split at h
  · next i a r0 =>
    split at h
    · next l hx =>
      split at h
      · next x hi =>
        rw [fo_at_eq] at hx
        rw [fo_ix_eq] at hi
        refine fo_go (fo_s5 (n := 1) (st' := .int x :: r0) (ph' := ph) (c1 := 0) (s1 := 0) hc ?_) (hg C k r hk _ _ _ _ _ h)
        unfold pm_mem
        simp only [hx, hi]
      · cases h
    · cases h
  · cases h
noncomputable def fo_lal (g : fo_b) : fo_b := fun C k L st ph c s => match st with
  | .int i :: .ref a :: r => (match fo_at ph a with
      | some (.inl (2, .inr (.inl l))) => (match fo_ix l i with
          | some x => g C k L (.long x :: r) ph c s
          | none => none)
      | _ => none)
  | _ => none
theorem fo_lal_ok (hc : pm_code K mj pc = some (5, .laload, aux)) (hg : fo_ok K mj (pc + 1) g) : fo_ok K mj pc (fo_lal g) := by
  intro C k r hk L st ph c s h
  unfold fo_lal at h
  split at h
  · next i a r0 =>
    split at h
    · next l hx =>
      split at h
      · next x hi =>
        rw [fo_at_eq] at hx
        rw [fo_ix_eq] at hi
        refine fo_go (fo_s5 (n := 1) (st' := .long x :: r0) (ph' := ph) (c1 := 0) (s1 := 0) hc ?_) (hg C k r hk _ _ _ _ _ h)
        unfold pm_mem
        simp only [hx, hi]
      · cases h
    · cases h
  · cases h
noncomputable def fo_ias (g : fo_b) : fo_b := fun C k L st ph c s => match st with
  | .int x :: .int i :: .ref a :: r => (match fo_at ph a with
      | some (.inl (0, .inl l)) => (match fo_up l i x with
          | some l' => g C k L r (fo_upd (.inl (0, .inl l')) ph a) c s
          | none => none)
      | _ => none)
  | _ => none
theorem fo_ias_ok (hc : pm_code K mj pc = some (5, .iastore, aux)) (hg : fo_ok K mj (pc + 1) g) : fo_ok K mj pc (fo_ias g) := by
  intro C k r hk L st ph c s h
  unfold fo_ias at h
  split at h
  · next x i a r0 =>
    split at h
    · next l hx =>
      split at h
      · next l' hi =>
        rw [fo_at_eq] at hx
        rw [fo_up_eq] at hi
        rw [fo_upd_eq] at h
        refine fo_go (fo_s5 (n := 1) (st' := r0) (c1 := 0) (s1 := 0) hc ?_) (hg C k r hk _ _ _ _ _ h)
        unfold pm_mem
        simp only [hx, hi]
      · cases h
    · cases h
  · cases h
noncomputable def fo_las (g : fo_b) : fo_b := fun C k L st ph c s => match st with
  | .long x :: .int i :: .ref a :: r => (match fo_at ph a with
      | some (.inl (2, .inr (.inl l))) => (match fo_up l i x with
          | some l' => g C k L r (fo_upd (.inl (2, .inr (.inl l'))) ph a) c s
          | none => none)
      | _ => none)
  | _ => none
theorem fo_las_ok (hc : pm_code K mj pc = some (5, .lastore, aux)) (hg : fo_ok K mj (pc + 1) g) : fo_ok K mj pc (fo_las g) := by
  intro C k r hk L st ph c s h
  unfold fo_las at h
  split at h
  · next x i a r0 =>
    split at h
    · next l hx =>
      split at h
      · next l' hi =>
        rw [fo_at_eq] at hx
        rw [fo_up_eq] at hi
        rw [fo_upd_eq] at h
        refine fo_go (fo_s5 (n := 1) (st' := r0) (c1 := 0) (s1 := 0) hc ?_) (hg C k r hk _ _ _ _ _ h)
        unfold pm_mem
        simp only [hx, hi]
      · cases h
    · cases h
  · cases h
/-- any other piece of group 5 -/
def fo_mem (K : pm_K) (ow : Nat) (ins : Instr) (n : Nat) (g : fo_b) : fo_b := fun C k L st ph c s => match pm_mem K false ow ins st ph with
  | some (m, st', ph', c1, s1) => bif Nat.beq m n then g C k L st' ph' (c + c1) (s + s1) else none
  | none => none
theorem fo_mem_ok {ow n : Nat} (hc : pm_code K mj pc = some (5, ins, aux)) (ho : pm_own K mj = ow) (hg : fo_ok K mj (pc + n) g) : fo_ok K mj pc (fo_mem K ow ins n g) := by
  intro C k r hk L st ph c s h
  unfold fo_mem at h
  subst ho
  split at h
  · next m st' ph' c1 s1 hx =>
    obtain ⟨h1, h2⟩ := fo_bifn h
    have e := Nat.eq_of_beq_eq_true h1
    subst e
    exact fo_go (fo_s5 hc hx) (hg C k r hk _ _ _ _ _ h2)
  · cases h
/-- calls -/
def fo_inv (K : pm_K) (ow : Nat) (ins : Instr) (g : fo_b) : fo_b := fun C k L st ph c s => match pm_inv K ow ins st ph with
  | some (j, as, r) => (match C j as ph with
      | some (v, ph', c1, s1) => g C k L (v.toList ++ r) ph' (c + c1) (s + s1)
      | none => none)
  | none => none
theorem fo_inv_ok {ow : Nat} (hc : pm_code K mj pc = some (6, ins, aux)) (ho : pm_own K mj = ow) (hg : fo_ok K mj (pc + 3) g) : fo_ok K mj pc (fo_inv K ow ins g) := by
  intro C k r hk L st ph c s h
  unfold fo_inv at h
  subst ho
  split at h
  · next j as r0 hx =>
    split at h
    · next v ph' c1 s1 hC => exact fo_call hc hx hC (hg C k r hk _ _ _ _ _ h)
    · cases h
  · cases h
/-- the end -/
def fo_ret (kd : Nat) (ins : Instr) : fo_b := fun _ _ _ st ph c s => match pm_ret kd ins st with
  | some v => some (v, ph, c, s)
  | none => none
theorem fo_ret_ok {kd : Nat} (hc : pm_code K mj pc = some (7, ins, aux)) (hs : (pm_sig K mj).2.2 = kd) : fo_ok K mj pc (fo_ret kd ins) := by
  intro C k r hk L st ph c s h
  unfold fo_ret at h
  subst hs
  split at h
  · next v hx =>
    cases h
    exact fo_end hc hx
  · cases h
def fo_ri : fo_b := fun _ _ _ st ph c s => match st with
  | [.int x] => some (some (.int x), ph, c, s)
  | _ => none
theorem fo_ri_ok (hc : pm_code K mj pc = some (7, .ireturn, aux)) (hs : (pm_sig K mj).2.2 = 1) : fo_ok K mj pc fo_ri := by
  intro C k r hk L st ph c s h
  unfold fo_ri at h
  split at h
  · next x =>
    cases h
    refine fo_end hc ?_
    rw [hs]
    rfl
  · cases h
def fo_rz : fo_b := fun _ _ _ st ph c s => match st with
  | [.int x] => bif (bif fo_eq x 0 then true else fo_eq x 1) then some (some (.int x), ph, c, s) else none
  | _ => none
theorem fo_rz_ok (hc : pm_code K mj pc = some (7, .ireturn, aux)) (hs : (pm_sig K mj).2.2 = 2) : fo_ok K mj pc fo_rz := by
  intro C k r hk L st ph c s h
  unfold fo_rz at h
  split at h
  · next x =>
    obtain ⟨h1, h2⟩ := fo_bifn h
    cases h2
    refine fo_end hc ?_
    rw [hs]
    rw [fo_eq_eq, fo_eq_eq] at h1
    show (bif Nat.beq 2 1 then some (some (Value.int x)) else bif Nat.beq 2 2 && (bif decide (x = 0) then true else decide (x = 1)) then some (some (.int x)) else _) = _
    first
      | (rw [h1]; rfl)
      | rw [h1]
  · cases h
end FO
/-! a method by its blocks -/
noncomputable def fo_run (T : List (Nat × fo_b)) (C : fo_C) (n : Nat) : fo_K := Nat.rec (motive := fun _ => fo_K) (fun _ _ _ _ _ _ => none) (fun _ k pc L st ph c s => match pm_lu T pc with
  | some f => f C k L st ph c s
  | none => none) n
theorem fo_run_ok {K : pm_K} {C : fo_C} {mj : Nat} {T : List (Nat × fo_b)} (hT : ∀ q ∈ T, fo_ok K mj q.1 q.2) : ∀ (n pc : Nat) (L : List (Option Value)) (st : List Value) (ph : pm_H) (c s : Nat) (r : pm_R), fo_run T C n pc L st ph c s = some r → ∃ N, pm_run K false C mj N (pc, L, st, ph, c, s) = some r := by
  intro n
  induction n with
  | zero =>
    intro pc L st ph c s r h
    have h2 : (none : Option pm_R) = some r := h
    cases h2
  | succ n ih =>
    intro pc L st ph c s r h
    have h2 : (match pm_lu T pc with
      | some f => f C (fo_run T C n) L st ph c s
      | none => none) = some r := h
    split at h2
    · next f hf => exact hT _ (pm_lu_mem hf) C (fo_run T C n) r (fun pc L st ph c s q => ih pc L st ph c s r q) L st ph c s h2
    · cases h2
/-- calls by blocks where there are some -/
noncomputable def fo_ev (K : pm_K) (TT : Nat → Option (List (Nat × fo_b))) (F : Nat) (d : Nat) : fo_C := Nat.rec (motive := fun _ => fo_C) (fun _ _ _ => none) (fun _ C j as ph => bif pm_entB K j as then (match TT j with
  | some T => fo_run T C F 0 (pm_ent K j as ph).2.1 [] ph 0 0
  | none => pm_run K false C j F (pm_ent K j as ph)) else none) d
theorem fo_ev_ok {K : pm_K} {TT : Nat → Option (List (Nat × fo_b))} (hT : ∀ j T, TT j = some T → ∀ q ∈ T, fo_ok K j q.1 q.2) (F : Nat) : ∀ (d j : Nat) (as : List Value) (ph : pm_H) (r : pm_R), fo_ev K TT F d j as ph = some r → pm_Rd K false d j as ph r := by
  intro d
  induction d with
  | zero =>
    intro j as ph r h
    have h2 : (none : Option pm_R) = some r := h
    cases h2
  | succ d ih =>
    intro j as ph r h
    have h2 : (bif pm_entB K j as then (match TT j with
      | some T => fo_run T (fo_ev K TT F d) F 0 (pm_ent K j as ph).2.1 [] ph 0 0
      | none => pm_run K false (fo_ev K TT F d) j F (pm_ent K j as ph)) else none) = some r := h
    obtain ⟨h3, h4⟩ := fo_bifn h2
    split at h4
    · next T hTT =>
      obtain ⟨N, hN⟩ := fo_run_ok (hT j T hTT) F 0 _ [] ph 0 0 r h4
      exact ⟨h3, N, pm_run_T K false ih j N _ _ hN⟩
    · exact ⟨h3, F, pm_run_T K false ih j F _ _ h4⟩
/-! the pieces by their instructions -/
section FOV
variable {K : pm_K} {C : fo_C} {mj pc aux : Nat} {g : fo_b}
theorem fo_lin (k : Fin 4) : ∀ (L : List (Option Value)) (x : Int32), L[(k : Nat)]? = some (some (.int x)) → pm_load (.iload_n k) L = some (.int x, 1) := fun L x h => by
  show (match L[(k : Nat)]? with
    | some (some (.int x)) => some (Value.int x, 1)
    | _ => none) = _
  simp only [h]
theorem fo_li (i : Nat) : ∀ (L : List (Option Value)) (x : Int32), L[i]? = some (some (.int x)) → pm_load (.iload i) L = some (.int x, 2) := fun L x h => by
  show (match L[i]? with
    | some (some (.int x)) => some (Value.int x, 2)
    | _ => none) = _
  simp only [h]
theorem fo_lln (k : Fin 4) : ∀ (L : List (Option Value)) (x : Int64), L[(k : Nat)]? = some (some (.long x)) → pm_load (.lload_n k) L = some (.long x, 1) := fun L x h => by
  show (match L[(k : Nat)]? with
    | some (some (.long x)) => some (Value.long x, 1)
    | _ => none) = _
  simp only [h]
theorem fo_lli (i : Nat) : ∀ (L : List (Option Value)) (x : Int64), L[i]? = some (some (.long x)) → pm_load (.lload i) L = some (.long x, 2) := fun L x h => by
  show (match L[i]? with
    | some (some (.long x)) => some (Value.long x, 2)
    | _ => none) = _
  simp only [h]
theorem fo_lan (k : Fin 4) : ∀ (L : List (Option Value)) (x : Nat), L[(k : Nat)]? = some (some (.ref x)) → pm_load (.aload_n k) L = some (.ref x, 1) := fun L x h => by
  show (match L[(k : Nat)]? with
    | some (some (.ref x)) => some (Value.ref x, 1)
    | some (some .null) => some (Value.null, 1)
    | _ => none) = _
  simp only [h]
theorem fo_la (i : Nat) : ∀ (L : List (Option Value)) (x : Nat), L[i]? = some (some (.ref x)) → pm_load (.aload i) L = some (.ref x, 2) := fun L x h => by
  show (match L[i]? with
    | some (some (.ref x)) => some (Value.ref x, 2)
    | some (some .null) => some (Value.null, 2)
    | _ => none) = _
  simp only [h]
theorem fo_sin (k : Fin 4) : ∀ (L : List (Option Value)) (x : Int32) (r : List Value), Nat.blt (k : Nat) L.length = true → pm_store (.istore_n k) L (.int x :: r) = some (pm_set L (k : Nat) (.int x), r, 1) := fun L x r h => by
  show (bif Nat.blt (k : Nat) L.length then some (pm_set L (k : Nat) (.int x), r, 1) else none) = _
  simp only [h, cond_true]
theorem fo_si (i : Nat) : ∀ (L : List (Option Value)) (x : Int32) (r : List Value), Nat.blt i L.length = true → pm_store (.istore i) L (.int x :: r) = some (pm_set L i (.int x), r, 2) := fun L x r h => by
  show (bif Nat.blt i L.length then some (pm_set L i (.int x), r, 2) else none) = _
  simp only [h, cond_true]
theorem fo_san (k : Fin 4) : ∀ (L : List (Option Value)) (x : Nat) (r : List Value), Nat.blt (k : Nat) L.length = true → pm_store (.astore_n k) L (.ref x :: r) = some (pm_set L (k : Nat) (.ref x), r, 1) := fun L x r h => by
  show (bif Nat.blt (k : Nat) L.length then some (pm_set L (k : Nat) (.ref x), r, 1) else none) = _
  simp only [h, cond_true]
theorem fo_sa (i : Nat) : ∀ (L : List (Option Value)) (x : Nat) (r : List Value), Nat.blt i L.length = true → pm_store (.astore i) L (.ref x :: r) = some (pm_set L i (.ref x), r, 2) := fun L x r h => by
  show (bif Nat.blt i L.length then some (pm_set L i (.ref x), r, 2) else none) = _
  simp only [h, cond_true]
theorem fo_sln (k : Fin 4) : ∀ (L : List (Option Value)) (x : Int64) (r : List Value), Nat.blt ((k : Nat) + 1) L.length = true → pm_store (.lstore_n k) L (.long x :: r) = some ((pm_set L (k : Nat) (.long x)).set ((k : Nat) + 1) none, r, 1) := fun L x r h => by
  show (bif Nat.blt ((k : Nat) + 1) L.length then some ((pm_set L (k : Nat) (.long x)).set ((k : Nat) + 1) none, r, 1) else none) = _
  simp only [h, cond_true]
theorem fo_sl (i : Nat) : ∀ (L : List (Option Value)) (x : Int64) (r : List Value), Nat.blt (i + 1) L.length = true → pm_store (.lstore i) L (.long x :: r) = some ((pm_set L i (.long x)).set (i + 1) none, r, 2) := fun L x r h => by
  show (bif Nat.blt (i + 1) L.length then some ((pm_set L i (.long x)).set (i + 1) none, r, 2) else none) = _
  simp only [h, cond_true]
theorem fo_cst {z : Int} {m : Nat} (h : Int32.ofInt z = fo_i m) : ∀ r : List Value, pm_alu (.iconst z) r = some (.int (fo_i m) :: r) := fun r => by rw [← h]; rfl
theorem fo_cb {ow : Nat} {z : Int} {m : Nat} (h : (Int8.ofInt z).toInt32 = fo_i m) : pm_push K ow (.bipush z) = some (.int (fo_i m), 2) := by rw [← h]; rfl
theorem fo_ch {ow : Nat} {z : Int} {m : Nat} (h : (Int16.ofInt z).toInt32 = fo_i m) : pm_push K ow (.sipush z) = some (.int (fo_i m), 3) := by rw [← h]; rfl
theorem fo_viadd : ∀ (x y : Int32) (r : List Value), pm_alu .iadd (.int y :: .int x :: r) = some (.int (fo_add x y) :: r) := fun x y r => by rw [fo_add_eq]; rfl
theorem fo_visub : ∀ (x y : Int32) (r : List Value), pm_alu .isub (.int y :: .int x :: r) = some (.int (fo_sub x y) :: r) := fun x y r => by rw [fo_sub_eq]; rfl
theorem fo_vimul : ∀ (x y : Int32) (r : List Value), pm_alu .imul (.int y :: .int x :: r) = some (.int (fo_mul x y) :: r) := fun x y r => by rw [fo_mul_eq]; rfl
def fo_ne (x y : Int32) : Bool := bif fo_eq x y then false else true
def fo_ge (x y : Int32) : Bool := fo_le y x
def fo_gt (x y : Int32) : Bool := fo_lt y x
theorem fo_ic_eq {o : Int} : ∀ (x y : Int32) (r : List Value), pm_br (.if_icmp .eq o) aux pc (.int y :: .int x :: r) = some (bif fo_eq x y then aux else pc + 3, r) := fun x y r => by rw [fo_eq_eq]; rfl
theorem fo_ic_ne {o : Int} : ∀ (x y : Int32) (r : List Value), pm_br (.if_icmp .ne o) aux pc (.int y :: .int x :: r) = some (bif fo_ne x y then aux else pc + 3, r) := fun x y r => by
  unfold fo_ne
  rw [fo_eq_eq]
  show some (bif decide (x = y) then pc + 3 else aux, r) = _
  cases decide (x = y) <;> rfl
theorem fo_ic_lt {o : Int} : ∀ (x y : Int32) (r : List Value), pm_br (.if_icmp .lt o) aux pc (.int y :: .int x :: r) = some (bif fo_lt x y then aux else pc + 3, r) := fun x y r => by rw [fo_lt_eq]; rfl
theorem fo_ic_ge {o : Int} : ∀ (x y : Int32) (r : List Value), pm_br (.if_icmp .ge o) aux pc (.int y :: .int x :: r) = some (bif fo_ge x y then aux else pc + 3, r) := fun x y r => by unfold fo_ge; rw [fo_le_eq]; rfl
theorem fo_ic_gt {o : Int} : ∀ (x y : Int32) (r : List Value), pm_br (.if_icmp .gt o) aux pc (.int y :: .int x :: r) = some (bif fo_gt x y then aux else pc + 3, r) := fun x y r => by unfold fo_gt; rw [fo_lt_eq]; rfl
theorem fo_ic_le {o : Int} : ∀ (x y : Int32) (r : List Value), pm_br (.if_icmp .le o) aux pc (.int y :: .int x :: r) = some (bif fo_le x y then aux else pc + 3, r) := fun x y r => by rw [fo_le_eq]; rfl
theorem fo_iz_eq {o : Int} : ∀ (x : Int32) (r : List Value), pm_br (.ifCond .eq o) aux pc (.int x :: r) = some (bif fo_eq x 0 then aux else pc + 3, r) := fun x r => by rw [fo_eq_eq]; rfl
theorem fo_iz_ne {o : Int} : ∀ (x : Int32) (r : List Value), pm_br (.ifCond .ne o) aux pc (.int x :: r) = some (bif fo_ne x 0 then aux else pc + 3, r) := fun x r => by
  unfold fo_ne
  rw [fo_eq_eq]
  show some (bif decide (x = 0) then pc + 3 else aux, r) = _
  cases decide (x = 0) <;> rfl
theorem fo_iz_lt {o : Int} : ∀ (x : Int32) (r : List Value), pm_br (.ifCond .lt o) aux pc (.int x :: r) = some (bif fo_lt x 0 then aux else pc + 3, r) := fun x r => by rw [fo_lt_eq]; rfl
theorem fo_iz_ge {o : Int} : ∀ (x : Int32) (r : List Value), pm_br (.ifCond .ge o) aux pc (.int x :: r) = some (bif fo_ge x 0 then aux else pc + 3, r) := fun x r => by unfold fo_ge; rw [fo_le_eq]; rfl
theorem fo_iz_gt {o : Int} : ∀ (x : Int32) (r : List Value), pm_br (.ifCond .gt o) aux pc (.int x :: r) = some (bif fo_gt x 0 then aux else pc + 3, r) := fun x r => by unfold fo_gt; rw [fo_lt_eq]; rfl
theorem fo_iz_le {o : Int} : ∀ (x : Int32) (r : List Value), pm_br (.ifCond .le o) aux pc (.int x :: r) = some (bif fo_le x 0 then aux else pc + 3, r) := fun x r => by rw [fo_le_eq]; rfl
end FOV
/-! calls without the table of instructions -/
noncomputable def fo_tk (n : Nat) : List Value → List Value → Option (List Value × List Value) := Nat.rec (motive := fun _ => List Value → List Value → Option (List Value × List Value)) (fun st acc => some (acc, st)) (fun _ ih st acc => match st with
  | a :: t => ih t (a :: acc)
  | [] => none) n
theorem fo_tk_eq : ∀ (n : Nat) (st acc as r : List Value), fo_tk n st acc = some (as, r) → n ≤ st.length ∧ as = (st.take n).reverse ++ acc ∧ r = st.drop n := by
  intro n
  induction n with
  | zero =>
    intro st acc as r h
    cases h
    exact ⟨Nat.zero_le _, rfl, rfl⟩
  | succ n ih =>
    intro st acc as r h
    cases st with
    | nil =>
      have h2 : (none : Option (List Value × List Value)) = some (as, r) := h
      cases h2
    | cons a t =>
      have h2 : fo_tk n t (a :: acc) = some (as, r) := h
      obtain ⟨h3, h4, h5⟩ := ih t (a :: acc) as r h2
      refine ⟨Nat.succ_le_succ h3, ?_, h5⟩
      rw [h4]
      simp
noncomputable def fo_sum (l : List Value) : Nat := List.rec (motive := fun _ => Nat) 0 (fun a _ ih => Nat.add a.category ih) l
theorem fo_sum_eq : ∀ (l : List Value), fo_sum l = (l.map fun v => v.category).sum := by
  intro l
  induction l with
  | nil => rfl
  | cons a t ih =>
    show a.category + fo_sum t = _
    rw [ih]
    rfl
section FOC
variable {K : pm_K} {C : fo_C} {mj pc aux : Nat} {ins : Instr} {g : fo_b}
noncomputable def fo_cs (j n : Nat) (g : fo_b) : fo_b := fun C k L st ph c s => match fo_tk n st [] with
  | some (as, r) => bif Nat.ble (fo_sum r) 8 then (match C j as ph with
      | some (v, ph', c1, s1) => g C k L (v.toList ++ r) ph' (c + c1) (s + s1)
      | none => none) else none
  | none => none
theorem fo_cs_ok {i j n : Nat} {v0 : Value} (hc : pm_code K mj pc = some (6, .invokestatic i, aux)) (hl : pm_lnk K (pm_own K mj) i = some (1, j, n, v0)) (hg : fo_ok K mj (pc + 3) g) : fo_ok K mj pc (fo_cs j n g) := by
  intro C k r hk L st ph c s h
  unfold fo_cs at h
  split at h
  · next as r0 hx =>
    obtain ⟨h1, h2⟩ := fo_bifn h
    obtain ⟨h3, h4, h5⟩ := fo_tk_eq _ _ _ _ _ hx
    rw [List.append_nil] at h4
    subst h4 h5
    rw [fo_sum_eq] at h1
    split at h2
    · next v ph' c1 s1 hC =>
      refine fo_call hc ?_ hC (hg C k r hk _ _ _ _ _ h2)
      unfold pm_inv
      simp only [hl, Nat.ble_eq_true_of_le h3, h1, Bool.and_self, cond_true]
    · cases h2
  · cases h
noncomputable def fo_cv (j n ci : Nat) (g : fo_b) : fo_b := fun C k L st ph c s => match fo_tk n st [] with
  | some (as, .ref a :: r) => (match fo_at ph a with
      | some (.inr (cj, _)) => bif Nat.beq ci cj && Nat.ble (fo_sum r) 8 then (match C j (.ref a :: as) ph with
          | some (v, ph', c1, s1) => g C k L (v.toList ++ r) ph' (c + c1) (s + s1)
          | none => none) else none
      | _ => none)
  | _ => none
theorem fo_cv_ok {i j n ci : Nat} (hc : pm_code K mj pc = some (6, .invokevirtual i, aux)) (hl : pm_lnk K (pm_own K mj) i = some (2, j, n, .ref ci)) (hg : fo_ok K mj (pc + 3) g) : fo_ok K mj pc (fo_cv j n ci g) := by
  intro C k r hk L st ph c s h
  unfold fo_cv at h
  split at h
  · next as a r0 hx =>
    split at h
    · next cj fs hph =>
      obtain ⟨h1, h2⟩ := fo_bifn h
      obtain ⟨h3, h4, h5⟩ := fo_tk_eq _ _ _ _ _ hx
      rw [List.append_nil] at h4
      subst h4
      rw [fo_sum_eq] at h1
      rw [fo_at_eq] at hph
      split at h2
      · next v ph' c1 s1 hC =>
        refine fo_call hc ?_ hC (hg C k r hk _ _ _ _ _ h2)
        unfold pm_inv
        simp only [hl, ← h5, hph, h1, cond_true]
      · cases h2
    · cases h
  · cases h
noncomputable def fo_cp (j n : Nat) (g : fo_b) : fo_b := fun C k L st ph c s => match fo_tk n st [] with
  | some (as, .ref a :: r) => bif Nat.ble (fo_sum r) 8 then (match C j (.ref a :: as) ph with
      | some (v, ph', c1, s1) => g C k L (v.toList ++ r) ph' (c + c1) (s + s1)
      | none => none) else none
  | _ => none
theorem fo_cp_ok {i j n : Nat} {v0 : Value} (hc : pm_code K mj pc = some (6, .invokespecial i, aux)) (hl : pm_lnk K (pm_own K mj) i = some (3, j, n, v0)) (hg : fo_ok K mj (pc + 3) g) : fo_ok K mj pc (fo_cp j n g) := by
  intro C k r hk L st ph c s h
  unfold fo_cp at h
  split at h
  · next as a r0 hx =>
    obtain ⟨h1, h2⟩ := fo_bifn h
    obtain ⟨h3, h4, h5⟩ := fo_tk_eq _ _ _ _ _ hx
    rw [List.append_nil] at h4
    subst h4
    rw [fo_sum_eq] at h1
    split at h2
    · next v ph' c1 s1 hC =>
      refine fo_call hc ?_ hC (hg C k r hk _ _ _ _ _ h2)
      unfold pm_inv
      simp only [hl, ← h5, h1, cond_true]
    · cases h2
  · cases h
def fo_max (x y : Int32) : Int32 := bif fo_lt x y then y else x
def fo_min (x y : Int32) : Int32 := bif fo_lt y x then y else x
noncomputable def fo_mx (f : Int32 → Int32 → Int32) (g : fo_b) : fo_b := fun C k L st ph c s => match st with
  | .int y :: .int x :: r => bif Nat.ble (fo_sum r) 8 then g C k L (.int (f x y) :: r) ph c s else none
  | _ => none
theorem fo_max_ok {i a b : Nat} {v0 : Value} (hc : pm_code K mj pc = some (5, .invokestatic i, aux)) (hl : pm_lnk K (pm_own K mj) i = some (15, a, b, v0)) (hg : fo_ok K mj (pc + 3) g) : fo_ok K mj pc (fo_mx fo_max g) := by
  intro C k r hk L st ph c s h
  unfold fo_mx at h
  split at h
  · next y x r0 =>
    obtain ⟨h1, h2⟩ := fo_bifn h
    rw [fo_sum_eq] at h1
    refine fo_go (fo_s5 (n := 3) (st' := .int (fo_max x y) :: r0) (ph' := ph) (c1 := 0) (s1 := 0) hc ?_) (hg C k r hk _ _ _ _ _ h2)
    unfold pm_mem fo_max
    rw [fo_lt_eq]
    simp only [hl, h1, cond_true]
    by_cases q : x < y
    · simp [q]
    · simp [q]
  · cases h
theorem fo_min_ok {i a b : Nat} {v0 : Value} (hc : pm_code K mj pc = some (5, .invokestatic i, aux)) (hl : pm_lnk K (pm_own K mj) i = some (16, a, b, v0)) (hg : fo_ok K mj (pc + 3) g) : fo_ok K mj pc (fo_mx fo_min g) := by
  intro C k r hk L st ph c s h
  unfold fo_mx at h
  split at h
  · next y x r0 =>
    obtain ⟨h1, h2⟩ := fo_bifn h
    rw [fo_sum_eq] at h1
    refine fo_go (fo_s5 (n := 3) (st' := .int (fo_min x y) :: r0) (ph' := ph) (c1 := 0) (s1 := 0) hc ?_) (hg C k r hk _ _ _ _ _ h2)
    unfold pm_mem fo_min
    rw [fo_lt_eq]
    simp only [hl, h1, cond_true]
    by_cases q : y < x
    · simp [q]
    · simp [q]
  · cases h
def fo_dup (g : fo_b) : fo_b := fun C k L st ph c s => match st with
  | .int x :: r => g C k L (.int x :: .int x :: r) ph c s
  | .ref x :: r => g C k L (.ref x :: .ref x :: r) ph c s
  | _ => none
theorem fo_dup_ok (hc : pm_code K mj pc = some (0, .dup, aux)) (hg : fo_ok K mj (pc + 1) g) : fo_ok K mj pc (fo_dup g) := by
  intro C k r hk L st ph c s h
  unfold fo_dup at h
  split at h
  · exact fo_go (fo_s0 hc rfl) (hg C k r hk _ _ _ _ _ h)
  · exact fo_go (fo_s0 hc rfl) (hg C k r hk _ _ _ _ _ h)
  · cases h
end FOC
