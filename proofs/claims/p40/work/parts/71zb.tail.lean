/-! tails: from a place on, nothing writes a variable, and what is answered is that variable -/
def zTr (t : List (List (Nat × Nat × Instr × Nat))) (pc : Nat) : Bool := match pm_tl t pc with
  | some (7, _, _) => true
  | _ => false
/-- how long an instruction of a group is -/
def zml (g : Nat) (ins : Instr) : Nat := match g with
  | 0 => 1
  | 1 => (match ins with
    | .bipush _ => 2
    | .ldc _ => 2
    | _ => 3)
  | 2 => (match ins with
    | .iload _ => 2
    | .lload _ => 2
    | .aload _ => 2
    | _ => 1)
  | 3 => (match ins with
    | .istore _ => 2
    | .lstore _ => 2
    | .astore _ => 2
    | .iinc _ _ => 3
    | _ => 1)
  | 5 => (match ins with
    | .getfield _ => 3
    | .putfield _ => 3
    | .new _ => 3
    | .newarray _ => 2
    | .anewarray _ => 3
    | .invokespecial _ => 3
    | .invokestatic _ => 3
    | _ => 1)
  | _ => 3
def zTn (t : List (List (Nat × Nat × Instr × Nat))) (pc1 pc : Nat) : Bool := Nat.ble pc pc1 && !zTr t pc
def zTg (ins : Instr) : Bool := match ins with
  | .goto _ => true
  | _ => false
def zTcb (ins : Instr) : Bool := match ins with
  | .ifCond _ _ => true
  | .if_icmp _ _ => true
  | _ => false
theorem zTn_m {t : List (List (Nat × Nat × Instr × Nat))} {pc1 pc : Nat} (h : zTn t pc1 pc = true) : pc ≤ pc1 ∧ ∀ {P : Prop}, zTr t pc = true → P := by
  unfold zTn at h
  obtain ⟨h1, h2⟩ := Bool.and_eq_true_iff.mp h
  refine ⟨Nat.le_of_ble_eq_true h1, fun {P} g => ?_⟩
  rw [g] at h2
  cases h2
theorem zTpush {K : pm_K} {ow m : Nat} {ins : Instr} {v : Value} (h : pm_push K ow ins = some (v, m)) : m = zml 1 ins := by
  unfold pm_push at h
  split at h
  · cases h; rfl
  · cases h; rfl
  · split at h
    · cases h; rfl
    · cases h; rfl
    · cases h
  · split at h
    · cases h; rfl
    · cases h; rfl
    · cases h
  · split at h
    · cases h; rfl
    · cases h
  · split at h
    · cases h; rfl
    · cases h
  · cases h
theorem zTbn {α : Type} {b : Bool} {X : Option α} {y : α} (h : (bif b then none else X) = some y) : X = some y := by
  cases b with
  | true => cases h
  | false => exact h
theorem zTmem {K : pm_K} {ow m c1 s1 : Nat} {ins : Instr} {st st' : List Value} {ph ph' : pm_H} (h : pm_mem K false ow ins st ph = some (m, st', ph', c1, s1)) : m = zml 5 ins := by
  unfold pm_mem at h
  repeat' split at h
  all_goals first
    | (cases h; done)
    | (cases h; rfl)
    | (have h2 := zbif h; cases h2; rfl)
    | (have h2 := zTbn h; cases h2; done)
    | (have h2 := zTbn h; cases h2; rfl)
    | (have h2 := zbif (zTbn h); cases h2; rfl)
theorem zTbif4 {α : Type} {a b c d : Bool} {x y : α} (h : (bif a then some x else bif b then some x else bif c then some x else bif d then some x else none) = some y) : x = y := by
  cases a with
  | true => exact Option.some.inj h
  | false =>
    cases b with
    | true => exact Option.some.inj h
    | false =>
      cases c with
      | true => exact Option.some.inj h
      | false => exact zbif h
theorem zTret {kd : Nat} {ins : Instr} {st : List Value} {u : Option Value} {w : Value} (hw : (∃ x, w = .int x) ∨ (∃ x, w = .long x)) (hs : st.head? = some w) (h : pm_ret kd ins st = some u) : u = some w := by
  unfold pm_ret at h
  split at h
  · cases hs
  · have e := Option.some.inj hs
    rw [← e]
    exact (zTbif4 h).symm
  · have e := Option.some.inj hs
    rw [← e]
    exact (zbif h).symm
  · have e := Option.some.inj hs
    subst e
    rcases hw with ⟨x, hx⟩ | ⟨x, hx⟩ <;> cases hx
  · have e := Option.some.inj hs
    subst e
    rcases hw with ⟨x, hx⟩ | ⟨x, hx⟩ <;> cases hx
  · cases h
theorem zTbr {ins : Instr} {aux pc pc' : Nat} {st st' : List Value} (hi : (zTg ins || zTcb ins) = true) (h : pm_br ins aux pc st = some (pc', st')) : pc' = aux ∨ (zTcb ins = true ∧ pc' = pc + 3) := by
  have cb : ∀ {b : Bool} {r : List Value}, zTcb ins = true → some ((bif b then aux else pc + 3), r) = some (pc', st') → pc' = aux ∨ (zTcb ins = true ∧ pc' = pc + 3) := fun {b r} hc q => by
    cases b with
    | true => cases q; exact Or.inl rfl
    | false => cases q; exact Or.inr ⟨hc, rfl⟩
  have cb2 : ∀ {b : Bool} {r : List Value}, zTcb ins = true → some ((bif b then pc + 3 else aux), r) = some (pc', st') → pc' = aux ∨ (zTcb ins = true ∧ pc' = pc + 3) := fun {b r} hc q => by
    cases b with
    | true => cases q; exact Or.inr ⟨hc, rfl⟩
    | false => cases q; exact Or.inl rfl
  unfold pm_br at h
  split at h
  all_goals first
    | exact cb rfl h
    | exact cb2 rfl h
    | (cases hi; done)
    | (cases h; exact Or.inl rfl)
    | cases h