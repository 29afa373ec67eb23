/-! FAST: blocks of a method's code as nested closures; what they come to, the pure machine comes to -/
abbrev fo_C : Type := Nat → List Value → pm_H → Option pm_R
abbrev fo_K : Type := Nat → List (Option Value) → List Value → pm_H → Nat → Nat → Option pm_R
abbrev fo_b : Type := fo_C → fo_K → List (Option Value) → List Value → pm_H → Nat → Nat → Option pm_R
noncomputable def fo_nth {α : Type} (l : List α) : Nat → Option α := List.rec (motive := fun _ => Nat → Option α) (fun _ => none) (fun a _ ih i => Nat.rec (motive := fun _ => Option α) (some a) (fun n _ => ih n) i) l
theorem fo_nth_eq {α : Type} : ∀ (l : List α) (i : Nat), fo_nth l i = l[i]? := by
  intro l
  induction l with
  | nil => intro i; exact (List.getElem?_nil).symm
  | cons a t ih =>
    intro i
    cases i with
    | zero => rfl
    | succ n => exact (ih n).trans (List.getElem?_cons_succ).symm
noncomputable def fo_upd {α : Type} (x : α) (l : List α) : Nat → List α := List.rec (motive := fun _ => Nat → List α) (fun _ => []) (fun a t ih i => Nat.rec (motive := fun _ => List α) (x :: t) (fun n _ => a :: ih n) i) l
def fo_clr (a : Option Value) : Option Value := match a with
  | some (.long _) => none
  | some (.double _) => none
  | o => o
noncomputable def fo_fix (a : Option Value) (n : Nat) : Option Value := Nat.rec (motive := fun _ => Option Value) (fo_clr a) (fun _ _ => a) n
noncomputable def fo_lset (v : Value) (L : List (Option Value)) : Nat → List (Option Value) := List.rec (motive := fun _ => Nat → List (Option Value)) (fun _ => []) (fun a t ih i => Nat.rec (motive := fun _ => List (Option Value)) (some v :: t) (fun n _ => fo_fix a n :: ih n) i) L
theorem fo_lset_eq (v : Value) : ∀ (L : List (Option Value)) (i : Nat), fo_lset v L i = pm_set L i v := by
  intro L
  induction L with
  | nil =>
    intro i
    cases i with
    | zero => rfl
    | succ n => rfl
  | cons a t ih =>
    intro i
    cases i with
    | zero => rfl
    | succ n =>
      show fo_fix a n :: fo_lset v t n = _
      rw [ih]
      cases n with
      | zero =>
        show fo_clr a :: pm_set t 0 v = pm_set (a :: t) 1 v
        cases a with
        | none => rfl
        | some w => cases w <;> rfl
      | succ j =>
        show a :: pm_set t (j + 1) v = pm_set (a :: t) (j + 2) v
        unfold pm_set
        simp only [List.getElem?_cons_succ]
        generalize t[j]? = o
        cases o with
        | none => rfl
        | some w =>
          cases w with
          | none => rfl
          | some u => cases u <;> rfl
/-- a number of 32 bits as a natural one -/
def fo_n (x : Int32) : Nat := x.toBitVec.toNat
/-- comparing, by adding 2^31 -/
def fo_o (x : Int32) : Nat := (fo_n x + 2147483648) % 4294967296
def fo_lt (x y : Int32) : Bool := Nat.blt (fo_o x) (fo_o y)
def fo_le (x y : Int32) : Bool := Nat.ble (fo_o x) (fo_o y)
def fo_eq (x y : Int32) : Bool := Nat.beq (fo_n x) (fo_n y)
theorem fo_oi (x : Int32) : ((fo_o x : Nat) : Int) = x.toInt + 2147483648 := by
  have h1 : x.toInt = x.toBitVec.toInt := rfl
  have h2 := x.toBitVec.isLt
  unfold fo_o fo_n
  rw [h1, BitVec.toInt_eq_toNat_cond]
  split <;> omega
theorem fo_lt_eq (x y : Int32) : fo_lt x y = decide (x < y) := by
  have hx := fo_oi x
  have hy := fo_oi y
  have h : (fo_o x < fo_o y) ↔ x < y := by rw [Int32.lt_iff_toInt_lt]; omega
  unfold fo_lt
  cases hb : Nat.blt (fo_o x) (fo_o y) with
  | true => exact (decide_eq_true (h.mp (Nat.le_of_ble_eq_true hb))).symm
  | false =>
    refine (decide_eq_false fun q => ?_).symm
    have this : Nat.blt (fo_o x) (fo_o y) = true := Nat.ble_eq_true_of_le (h.mpr q)
    rw [hb] at this
    cases this
theorem fo_le_eq (x y : Int32) : fo_le x y = decide (x ≤ y) := by
  have hx := fo_oi x
  have hy := fo_oi y
  have h : (fo_o x ≤ fo_o y) ↔ x ≤ y := by rw [Int32.le_iff_toInt_le]; omega
  unfold fo_le
  cases hb : Nat.ble (fo_o x) (fo_o y) with
  | true => exact (decide_eq_true (h.mp (Nat.le_of_ble_eq_true hb))).symm
  | false =>
    refine (decide_eq_false fun q => ?_).symm
    have this : Nat.ble (fo_o x) (fo_o y) = true := Nat.ble_eq_true_of_le (h.mpr q)
    rw [hb] at this
    cases this
theorem fo_eq_eq (x y : Int32) : fo_eq x y = decide (x = y) := by
  unfold fo_eq
  cases hb : Nat.beq (fo_n x) (fo_n y) with
  | true =>
    refine (decide_eq_true ?_).symm
    exact Int32.toBitVec_inj.mp (BitVec.eq_of_toNat_eq (Nat.eq_of_beq_eq_true hb))
  | false =>
    refine (decide_eq_false fun q => ?_).symm
    subst q
    have this : Nat.beq (fo_n x) (fo_n x) = true := by first | exact Nat.beq_refl _ | exact Nat.beq_refl | simp
    rw [hb] at this
    cases this
/-! what a block must give -/
section FO
variable {K : pm_K} {C : fo_C} {mj pc aux : Nat} {ins : Instr} {L L' : List (Option Value)} {st st' : List Value} {ph ph' : pm_H} {c s : Nat} {r : pm_R} {g : fo_b}
/-! the pieces -/
end FO
/-! a method by its blocks -/
/-! the pieces by their instructions -/
section FOV
variable {K : pm_K} {C : fo_C} {mj pc aux : Nat} {g : fo_b}
theorem fo_lin (k : Fin 4) : ∀ (L : List (Option Value)) (x : Int32), L[(k : Nat)]? = some (some (.int x)) → pm_load (.iload_n k) L = some (.int x, 1) := fun L x h => by
  show (match L[(k : Nat)]? with
    | some (some (.int x)) => some (Value.int x, 1)
    | _ => none) = _
  simp only [h]
theorem fo_li (i : Nat) : ∀ (L : List (Option Value)) (x : Int32), L[i]? = some (some (.int x)) → pm_load (.iload i) L = some (.int x, 2) := fun L x h => by
  show (match L[i]? with
    | some (some (.int x)) => some (Value.int x, 2)
    | _ => none) = _
  simp only [h]
theorem fo_lln (k : Fin 4) : ∀ (L : List (Option Value)) (x : Int64), L[(k : Nat)]? = some (some (.long x)) → pm_load (.lload_n k) L = some (.long x, 1) := fun L x h => by
  show (match L[(k : Nat)]? with
    | some (some (.long x)) => some (Value.long x, 1)
    | _ => none) = _
  simp only [h]
theorem fo_lli (i : Nat) : ∀ (L : List (Option Value)) (x : Int64), L[i]? = some (some (.long x)) → pm_load (.lload i) L = some (.long x, 2) := fun L x h => by
  show (match L[i]? with
    | some (some (.long x)) => some (Value.long x, 2)
    | _ => none) = _
  simp only [h]
theorem fo_lan (k : Fin 4) : ∀ (L : List (Option Value)) (x : Nat), L[(k : Nat)]? = some (some (.ref x)) → pm_load (.aload_n k) L = some (.ref x, 1) := fun L x h => by
  show (match L[(k : Nat)]? with
    | some (some (.ref x)) => some (Value.ref x, 1)
    | some (some .null) => some (Value.null, 1)
    | _ => none) = _
  simp only [h]
theorem fo_la (i : Nat) : ∀ (L : List (Option Value)) (x : Nat), L[i]? = some (some (.ref x)) → pm_load (.aload i) L = some (.ref x, 2) := fun L x h => by
  show (match L[i]? with
    | some (some (.ref x)) => some (Value.ref x, 2)
    | some (some .null) => some (Value.null, 2)
    | _ => none) = _
  simp only [h]
theorem fo_sin (k : Fin 4) : ∀ (L : List (Option Value)) (x : Int32) (r : List Value), Nat.blt (k : Nat) L.length = true → pm_store (.istore_n k) L (.int x :: r) = some (pm_set L (k : Nat) (.int x), r, 1) := fun L x r h => by
  show (bif Nat.blt (k : Nat) L.length then some (pm_set L (k : Nat) (.int x), r, 1) else none) = _
  simp only [h, cond_true]
theorem fo_si (i : Nat) : ∀ (L : List (Option Value)) (x : Int32) (r : List Value), Nat.blt i L.length = true → pm_store (.istore i) L (.int x :: r) = some (pm_set L i (.int x), r, 2) := fun L x r h => by
  show (bif Nat.blt i L.length then some (pm_set L i (.int x), r, 2) else none) = _
  simp only [h, cond_true]
theorem fo_san (k : Fin 4) : ∀ (L : List (Option Value)) (x : Nat) (r : List Value), Nat.blt (k : Nat) L.length = true → pm_store (.astore_n k) L (.ref x :: r) = some (pm_set L (k : Nat) (.ref x), r, 1) := fun L x r h => by
  show (bif Nat.blt (k : Nat) L.length then some (pm_set L (k : Nat) (.ref x), r, 1) else none) = _
  simp only [h, cond_true]
theorem fo_sln (k : Fin 4) : ∀ (L : List (Option Value)) (x : Int64) (r : List Value), Nat.blt ((k : Nat) + 1) L.length = true → pm_store (.lstore_n k) L (.long x :: r) = some ((pm_set L (k : Nat) (.long x)).set ((k : Nat) + 1) none, r, 1) := fun L x r h => by
  show (bif Nat.blt ((k : Nat) + 1) L.length then some ((pm_set L (k : Nat) (.long x)).set ((k : Nat) + 1) none, r, 1) else none) = _
  simp only [h, cond_true]
theorem fo_sl (i : Nat) : ∀ (L : List (Option Value)) (x : Int64) (r : List Value), Nat.blt (i + 1) L.length = true → pm_store (.lstore i) L (.long x :: r) = some ((pm_set L i (.long x)).set (i + 1) none, r, 2) := fun L x r h => by
  show (bif Nat.blt (i + 1) L.length then some ((pm_set L i (.long x)).set (i + 1) none, r, 2) else none) = _
  simp only [h, cond_true]
def fo_ne (x y : Int32) : Bool := bif fo_eq x y then false else true
def fo_ge (x y : Int32) : Bool := fo_le y x
def fo_gt (x y : Int32) : Bool := fo_lt y x
theorem fo_ic_eq {o : Int} : ∀ (x y : Int32) (r : List Value), pm_br (.if_icmp .eq o) aux pc (.int y :: .int x :: r) = some (bif fo_eq x y then aux else pc + 3, r) := fun x y r => by rw [fo_eq_eq]; rfl
theorem fo_ic_ne {o : Int} : ∀ (x y : Int32) (r : List Value), pm_br (.if_icmp .ne o) aux pc (.int y :: .int x :: r) = some (bif fo_ne x y then aux else pc + 3, r) := fun x y r => by
  unfold fo_ne
  rw [fo_eq_eq]
  show some (bif decide (x = y) then pc + 3 else aux, r) = _
  cases decide (x = y) <;> rfl
theorem fo_ic_lt {o : Int} : ∀ (x y : Int32) (r : List Value), pm_br (.if_icmp .lt o) aux pc (.int y :: .int x :: r) = some (bif fo_lt x y then aux else pc + 3, r) := fun x y r => by rw [fo_lt_eq]; rfl
theorem fo_ic_ge {o : Int} : ∀ (x y : Int32) (r : List Value), pm_br (.if_icmp .ge o) aux pc (.int y :: .int x :: r) = some (bif fo_ge x y then aux else pc + 3, r) := fun x y r => by unfold fo_ge; rw [fo_le_eq]; rfl
theorem fo_ic_gt {o : Int} : ∀ (x y : Int32) (r : List Value), pm_br (.if_icmp .gt o) aux pc (.int y :: .int x :: r) = some (bif fo_gt x y then aux else pc + 3, r) := fun x y r => by unfold fo_gt; rw [fo_lt_eq]; rfl
theorem fo_ic_le {o : Int} : ∀ (x y : Int32) (r : List Value), pm_br (.if_icmp .le o) aux pc (.int y :: .int x :: r) = some (bif fo_le x y then aux else pc + 3, r) := fun x y r => by rw [fo_le_eq]; rfl
theorem fo_iz_eq {o : Int} : ∀ (x : Int32) (r : List Value), pm_br (.ifCond .eq o) aux pc (.int x :: r) = some (bif fo_eq x 0 then aux else pc + 3, r) := fun x r => by rw [fo_eq_eq]; rfl
theorem fo_iz_ne {o : Int} : ∀ (x : Int32) (r : List Value), pm_br (.ifCond .ne o) aux pc (.int x :: r) = some (bif fo_ne x 0 then aux else pc + 3, r) := fun x r => by
  unfold fo_ne
  rw [fo_eq_eq]
  show some (bif decide (x = 0) then pc + 3 else aux, r) = _
  cases decide (x = 0) <;> rfl
theorem fo_iz_lt {o : Int} : ∀ (x : Int32) (r : List Value), pm_br (.ifCond .lt o) aux pc (.int x :: r) = some (bif fo_lt x 0 then aux else pc + 3, r) := fun x r => by rw [fo_lt_eq]; rfl
theorem fo_iz_ge {o : Int} : ∀ (x : Int32) (r : List Value), pm_br (.ifCond .ge o) aux pc (.int x :: r) = some (bif fo_ge x 0 then aux else pc + 3, r) := fun x r => by unfold fo_ge; rw [fo_le_eq]; rfl
theorem fo_iz_gt {o : Int} : ∀ (x : Int32) (r : List Value), pm_br (.ifCond .gt o) aux pc (.int x :: r) = some (bif fo_gt x 0 then aux else pc + 3, r) := fun x r => by unfold fo_gt; rw [fo_lt_eq]; rfl
theorem fo_iz_le {o : Int} : ∀ (x : Int32) (r : List Value), pm_br (.ifCond .le o) aux pc (.int x :: r) = some (bif fo_le x 0 then aux else pc + 3, r) := fun x r => by rw [fo_le_eq]; rfl
end FOV
/-! calls without the table of instructions -/
section FOC
variable {K : pm_K} {C : fo_C} {mj pc aux : Nat} {ins : Instr} {g : fo_b}
end FOC
