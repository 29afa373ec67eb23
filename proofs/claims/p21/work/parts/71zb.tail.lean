/-! tails: from a place on, nothing writes a variable, and what is answered is that variable -/
def zTr (t : List (List (Nat × Nat × Instr × Nat))) (pc : Nat) : Bool := match pm_tl t pc with
  | some (7, _, _) => true
  | _ => false
/-- how long an instruction of a group is -/
def zml (g : Nat) (ins : Instr) : Nat := match g with
  | 0 => 1
  | 1 => (match ins with
    | .bipush _ => 2
    | .ldc _ => 2
    | _ => 3)
  | 2 => (match ins with
    | .iload _ => 2
    | .lload _ => 2
    | .aload _ => 2
    | _ => 1)
  | 3 => (match ins with
    | .istore _ => 2
    | .lstore _ => 2
    | .astore _ => 2
    | .iinc _ _ => 3
    | _ => 1)
  | 5 => (match ins with
    | .getfield _ => 3
    | .putfield _ => 3
    | .new _ => 3
    | .newarray _ => 2
    | .anewarray _ => 3
    | .invokespecial _ => 3
    | .invokestatic _ => 3
    | _ => 1)
  | _ => 3
def zTn (t : List (List (Nat × Nat × Instr × Nat))) (pc1 pc : Nat) : Bool := Nat.ble pc pc1 && !zTr t pc
/-- a store into k leaves i as it is (lg: i may hold a long) -/
def zTf (lg : Bool) (k i : Nat) : Bool := (!Nat.beq k i) && ((!Nat.beq (k + 1) i) && (!(lg && Nat.beq k (i + 1))))
def zTl (i : Nat) (ins : Instr) : Bool := match ins with
  | .iload_n k => Nat.beq (k : Nat) i
  | .lload_n k => Nat.beq (k : Nat) i
  | .iload k => Nat.beq k i
  | .lload k => Nat.beq k i
  | _ => false
def zTsw (lg : Bool) (i : Nat) (ins : Instr) : Bool := match ins with
  | .istore_n k => zTf lg (k : Nat) i
  | .istore k => zTf lg k i
  | .lstore_n k => zTf lg (k : Nat) i
  | .lstore k => zTf lg k i
  | .astore_n k => zTf lg (k : Nat) i
  | .astore k => zTf lg k i
  | .iinc k _ => zTf lg k i
  | _ => false
def zTg (ins : Instr) : Bool := match ins with
  | .goto _ => true
  | _ => false
def zTcb (ins : Instr) : Bool := match ins with
  | .ifCond _ _ => true
  | .if_icmp _ _ => true
  | _ => false
def zTok (t : List (List (Nat × Nat × Instr × Nat))) (lg : Bool) (i pc0 pc1 : Nat) (q : Nat × Nat × Instr × Nat) : Bool := bif Nat.blt q.1 pc0 then true else bif Nat.blt pc1 q.1 then true else match q.2 with
  | (0, _, _) => zTn t pc1 (q.1 + 1)
  | (1, ins, _) => zTn t pc1 (q.1 + zml 1 ins)
  | (2, ins, _) => (zTl i ins && Nat.ble (q.1 + zml 2 ins) pc1) || zTn t pc1 (q.1 + zml 2 ins)
  | (3, ins, _) => zTsw lg i ins && zTn t pc1 (q.1 + zml 3 ins)
  | (4, ins, aux) => (zTg ins || (zTcb ins && zTn t pc1 (q.1 + 3))) && (Nat.ble pc0 aux && zTn t pc1 aux)
  | (5, ins, _) => zTn t pc1 (q.1 + zml 5 ins)
  | (6, _, _) => zTn t pc1 (q.1 + 3)
  | (7, _, _) => true
  | _ => false
theorem zTn_m {t : List (List (Nat × Nat × Instr × Nat))} {pc1 pc : Nat} (h : zTn t pc1 pc = true) : pc ≤ pc1 ∧ ∀ {P : Prop}, zTr t pc = true → P := by
  unfold zTn at h
  obtain ⟨h1, h2⟩ := Bool.and_eq_true_iff.mp h
  refine ⟨Nat.le_of_ble_eq_true h1, fun {P} g => ?_⟩
  rw [g] at h2
  cases h2
theorem zTf_ok {lg : Bool} {k i : Nat} (h : zTf lg k i = true) : k ≠ i ∧ k + 1 ≠ i ∧ (lg = true → k ≠ i + 1) := by
  unfold zTf at h
  obtain ⟨h1, h2⟩ := Bool.and_eq_true_iff.mp h
  obtain ⟨h2, h3⟩ := Bool.and_eq_true_iff.mp h2
  refine ⟨fun e => ?_, fun e => ?_, fun e1 e => ?_⟩
  · subst e; rw [Nat.beq_refl] at h1; cases h1
  · rw [e, Nat.beq_refl] at h2; cases h2
  · rw [e1, e, Nat.beq_refl] at h3; cases h3
theorem zTset {L : List (Option Value)} {i k : Nat} {v w : Value} {lg : Bool} (hw : (∃ x, w = .int x) ∨ (lg = true ∧ ∃ x, w = .long x)) (hk : k ≠ i) (hl : lg = true → k ≠ i + 1) (h : L[i]? = some (some w)) : (pm_set L k v)[i]? = some (some w) := by
  unfold pm_set
  cases k with
  | zero => rw [List.getElem?_set_ne hk]; exact h
  | succ j =>
    have far : ∀ u, L[j]? = some (some u) → (pm_isL u = true ∨ ∃ x, u = .double x) → j ≠ i := fun u hu hd e => by
      subst e
      rw [h] at hu
      have e2 : w = u := Option.some.inj (Option.some.inj hu)
      subst e2
      rcases hw with ⟨x, rfl⟩ | ⟨e3, x, rfl⟩
      · rcases hd with hd | ⟨y, hd⟩
        · cases hd
        · cases hd
      · exact hl e3 rfl
    simp only
    split
    · next x hx =>
      rw [List.getElem?_set_ne (far _ hx (Or.inl rfl)), List.getElem?_set_ne hk]
      exact h
    · next x hx =>
      rw [List.getElem?_set_ne (far _ hx (Or.inr ⟨_, rfl⟩)), List.getElem?_set_ne hk]
      exact h
    · rw [List.getElem?_set_ne hk]
      exact h
theorem zTpush {K : pm_K} {ow m : Nat} {ins : Instr} {v : Value} (h : pm_push K ow ins = some (v, m)) : m = zml 1 ins := by
  unfold pm_push at h
  split at h
  · cases h; rfl
  · cases h; rfl
  · split at h
    · cases h; rfl
    · cases h; rfl
    · cases h
  · split at h
    · cases h; rfl
    · cases h; rfl
    · cases h
  · split at h
    · cases h; rfl
    · cases h
  · split at h
    · cases h; rfl
    · cases h
  · cases h
theorem zTload {i m : Nat} {ins : Instr} {L : List (Option Value)} {v w : Value} (hL : L[i]? = some (some w)) (h : pm_load ins L = some (v, m)) : m = zml 2 ins ∧ (zTl i ins = true → v = w) := by
  have key : ∀ {k : Nat} {u : Value}, L[k]? = some (some u) → Nat.beq k i = true → u = w := fun {k u} hu e => by
    have e2 := Nat.eq_of_beq_eq_true e
    subst e2
    rw [hL] at hu
    exact (Option.some.inj (Option.some.inj hu)).symm
  unfold pm_load at h
  split at h
  · split at h
    · next x hx => cases h; exact ⟨rfl, key hx⟩
    · cases h
  · split at h
    · next x hx => cases h; exact ⟨rfl, key hx⟩
    · cases h
  · split at h
    · next x hx => cases h; exact ⟨rfl, key hx⟩
    · cases h
  · split at h
    · next x hx => cases h; exact ⟨rfl, key hx⟩
    · cases h
  · split at h
    · cases h; exact ⟨rfl, fun q => absurd q (by simp [zTl])⟩
    · cases h; exact ⟨rfl, fun q => absurd q (by simp [zTl])⟩
    · cases h
  · split at h
    · cases h; exact ⟨rfl, fun q => absurd q (by simp [zTl])⟩
    · cases h; exact ⟨rfl, fun q => absurd q (by simp [zTl])⟩
    · cases h
  · cases h
theorem zTstore {lg : Bool} {i m : Nat} {ins : Instr} {L L' : List (Option Value)} {w : Value} {st st' : List Value} (hw : (∃ x, w = .int x) ∨ (lg = true ∧ ∃ x, w = .long x)) (hL : L[i]? = some (some w)) (ck : zTsw lg i ins = true) (h : pm_store ins L st = some (L', st', m)) : L'[i]? = some (some w) ∧ m = zml 3 ins := by
  have key : ∀ {k : Nat} {u : Value}, zTf lg k i = true → (pm_set L k u)[i]? = some (some w) := fun {k u} ck => by
    obtain ⟨d1, d2, d3⟩ := zTf_ok ck
    exact zTset hw d1 d3 hL
  have key2 : ∀ {k : Nat} {u : Value}, zTf lg k i = true → ((pm_set L k u).set (k + 1) none)[i]? = some (some w) := fun {k u} ck => by
    obtain ⟨d1, d2, d3⟩ := zTf_ok ck
    rw [List.getElem?_set_ne d2]
    exact zTset hw d1 d3 hL
  unfold pm_store at h
  split at h
  · have h2 := zbif h; cases h2; exact ⟨key ck, rfl⟩
  · have h2 := zbif h; cases h2; exact ⟨key ck, rfl⟩
  · have h2 := zbif h; cases h2; exact ⟨key2 ck, rfl⟩
  · have h2 := zbif h; cases h2; exact ⟨key2 ck, rfl⟩
  · have h2 := zbif h; cases h2; exact ⟨key ck, rfl⟩
  · have h2 := zbif h; cases h2; exact ⟨key ck, rfl⟩
  · split at h
    · have h2 := zbif h; cases h2; exact ⟨key ck, rfl⟩
    · cases h
  · cases h
theorem zTbn {α : Type} {b : Bool} {X : Option α} {y : α} (h : (bif b then none else X) = some y) : X = some y := by
  cases b with
  | true => cases h
  | false => exact h
theorem zTmem {K : pm_K} {ow m c1 s1 : Nat} {ins : Instr} {st st' : List Value} {ph ph' : pm_H} (h : pm_mem K false ow ins st ph = some (m, st', ph', c1, s1)) : m = zml 5 ins := by
  unfold pm_mem at h
  repeat' split at h
  all_goals first
    | (cases h; done)
    | (cases h; rfl)
    | (have h2 := zbif h; cases h2; rfl)
    | (have h2 := zTbn h; cases h2; done)
    | (have h2 := zTbn h; cases h2; rfl)
    | (have h2 := zbif (zTbn h); cases h2; rfl)
theorem zTbif4 {α : Type} {a b c d : Bool} {x y : α} (h : (bif a then some x else bif b then some x else bif c then some x else bif d then some x else none) = some y) : x = y := by
  cases a with
  | true => exact Option.some.inj h
  | false =>
    cases b with
    | true => exact Option.some.inj h
    | false =>
      cases c with
      | true => exact Option.some.inj h
      | false => exact zbif h
theorem zTret {kd : Nat} {ins : Instr} {st : List Value} {u : Option Value} {w : Value} (hw : (∃ x, w = .int x) ∨ (∃ x, w = .long x)) (hs : st.head? = some w) (h : pm_ret kd ins st = some u) : u = some w := by
  unfold pm_ret at h
  split at h
  · cases hs
  · have e := Option.some.inj hs
    rw [← e]
    exact (zTbif4 h).symm
  · have e := Option.some.inj hs
    rw [← e]
    exact (zbif h).symm
  · have e := Option.some.inj hs
    subst e
    rcases hw with ⟨x, hx⟩ | ⟨x, hx⟩ <;> cases hx
  · have e := Option.some.inj hs
    subst e
    rcases hw with ⟨x, hx⟩ | ⟨x, hx⟩ <;> cases hx
  · cases h
theorem zTbr {ins : Instr} {aux pc pc' : Nat} {st st' : List Value} (hi : (zTg ins || zTcb ins) = true) (h : pm_br ins aux pc st = some (pc', st')) : pc' = aux ∨ (zTcb ins = true ∧ pc' = pc + 3) := by
  have cb : ∀ {b : Bool} {r : List Value}, zTcb ins = true → some ((bif b then aux else pc + 3), r) = some (pc', st') → pc' = aux ∨ (zTcb ins = true ∧ pc' = pc + 3) := fun {b r} hc q => by
    cases b with
    | true => cases q; exact Or.inl rfl
    | false => cases q; exact Or.inr ⟨hc, rfl⟩
  have cb2 : ∀ {b : Bool} {r : List Value}, zTcb ins = true → some ((bif b then pc + 3 else aux), r) = some (pc', st') → pc' = aux ∨ (zTcb ins = true ∧ pc' = pc + 3) := fun {b r} hc q => by
    cases b with
    | true => cases q; exact Or.inr ⟨hc, rfl⟩
    | false => cases q; exact Or.inl rfl
  unfold pm_br at h
  split at h
  all_goals first
    | exact cb rfl h
    | exact cb2 rfl h
    | (cases hi; done)
    | (cases h; exact Or.inl rfl)
    | cases h
theorem zTail_k {j i pc0 pc1 D : Nat} {t : List (List (Nat × Nat × Instr × Nat))} {w : Value} {lg : Bool} (hk : ∀ pc, pm_code kK j pc = pm_tl t pc) (hw : (∃ x, w = .int x) ∨ (lg = true ∧ ∃ x, w = .long x)) (chk : t.all (fun c => c.all (zTok t lg i pc0 pc1)) = true) : ∀ (k : Nat) (pc : Nat) (L : List (Option Value)) (st : List Value) (ph : pm_H) (cs ss : Nat) (r : pm_R), pc0 ≤ pc → pc ≤ pc1 → L[i]? = some (some w) → (zTr t pc = true → st.head? = some w) → pm_Tn kK false (pm_Rd kK false D) j k (pc, L, st, ph, cs, ss) r → r.1 = some w := by
  intro k
  induction k with
  | zero => intro pc L st ph cs ss r hp hp1 hL hs hr; exact hr.elim
  | succ k ih =>
    intro pc L st ph cs ss r hp hp1 hL hs hr
    rw [pm_Tn] at hr
    unfold pm_step at hr
    cases he : pm_tl t pc with
    | none => simp only [hk, he] at hr
    | some e =>
      obtain ⟨g, ins, aux⟩ := e
      obtain ⟨c, hc, hq⟩ := pm_tl_mem he
      have ck := List.all_eq_true.mp (List.all_eq_true.mp chk c hc) _ hq
      have hb : Nat.blt pc pc0 = false := by
        cases h : Nat.blt pc pc0 with
        | false => rfl
        | true => exact absurd (Nat.le_of_ble_eq_true h) (by omega)
      have hb1 : Nat.blt pc1 pc = false := by
        cases h : Nat.blt pc1 pc with
        | false => rfl
        | true => exact absurd (Nat.le_of_ble_eq_true h) (by omega)
      unfold zTok at ck
      simp only [hb, hb1, cond_false] at ck
      simp only [hk, he] at hr
      clear hq
      revert ck hr he
      match g with
      | 0 =>
        intro he ck hr
        simp only at ck hr
        cases hm : pm_alu ins st with
        | none => simp only [hm] at hr
        | some st' =>
          simp only [hm] at hr
          exact ih _ _ _ _ _ _ _ (by omega) (zTn_m ck).1 hL (zTn_m ck).2 hr
      | 1 =>
        intro he ck hr
        simp only at ck hr
        cases hm : pm_push kK (pm_own kK j) ins with
        | none => simp only [hm] at hr
        | some q =>
          obtain ⟨v, m⟩ := q
          simp only [hm] at hr
          have e := zTpush hm
          subst e
          exact ih _ _ _ _ _ _ _ (by omega) (zTn_m ck).1 hL (zTn_m ck).2 hr
      | 2 =>
        intro he ck hr
        simp only at ck hr
        cases hm : pm_load ins L with
        | none => simp only [hm] at hr
        | some q =>
          obtain ⟨v, m⟩ := q
          simp only [hm] at hr
          obtain ⟨e, h2⟩ := zTload hL hm
          subst e
          rcases Bool.or_eq_true_iff.mp ck with ck | ck
          · obtain ⟨k1, k2⟩ := Bool.and_eq_true_iff.mp ck
            exact ih _ _ _ _ _ _ _ (by omega) (Nat.le_of_ble_eq_true k2) hL (fun _ => (show (v :: st).head? = some w from congrArg some (h2 k1))) hr
          · exact ih _ _ _ _ _ _ _ (by omega) (zTn_m ck).1 hL (zTn_m ck).2 hr
      | 3 =>
        intro he ck hr
        simp only at ck hr
        obtain ⟨k1, k2⟩ := Bool.and_eq_true_iff.mp ck
        cases hm : pm_store ins L st with
        | none => simp only [hm] at hr
        | some q =>
          obtain ⟨L', st', m⟩ := q
          simp only [hm] at hr
          obtain ⟨h2, e⟩ := zTstore hw hL k1 hm
          subst e
          exact ih _ _ _ _ _ _ _ (by omega) (zTn_m k2).1 h2 (zTn_m k2).2 hr
      | 4 =>
        intro he ck hr
        simp only at ck hr
        obtain ⟨k1, k2⟩ := Bool.and_eq_true_iff.mp ck
        obtain ⟨k2, k3⟩ := Bool.and_eq_true_iff.mp k2
        have k4 : (zTg ins || zTcb ins) = true ∧ (zTcb ins = true → zTg ins = false → zTn t pc1 (pc + 3) = true) := by
          cases h1 : zTg ins with
          | true => exact ⟨rfl, fun _ q => by cases q⟩
          | false =>
            rw [h1, Bool.false_or] at k1
            obtain ⟨k5, k6⟩ := Bool.and_eq_true_iff.mp k1
            exact ⟨by rw [k5]; rfl, fun _ _ => k6⟩
        cases hm : pm_br ins aux pc st with
        | none => simp only [hm] at hr
        | some q =>
          obtain ⟨pc', st'⟩ := q
          simp only [hm] at hr
          rcases zTbr k4.1 hm with rfl | ⟨hc2, rfl⟩
          · exact ih _ _ _ _ _ _ _ (Nat.le_of_ble_eq_true k2) (zTn_m k3).1 hL (zTn_m k3).2 hr
          · have hg : zTg ins = false := by
              cases ins <;> first | rfl | cases hc2
            have k5 := k4.2 hc2 hg
            exact ih _ _ _ _ _ _ _ (by omega) (zTn_m k5).1 hL (zTn_m k5).2 hr
      | 5 =>
        intro he ck hr
        simp only at ck hr
        cases hm : pm_mem kK false (pm_own kK j) ins st ph with
        | none => simp only [hm] at hr
        | some q =>
          obtain ⟨m, st', ph', c1, s1⟩ := q
          simp only [hm] at hr
          have e := zTmem hm
          subst e
          exact ih _ _ _ _ _ _ _ (by omega) (zTn_m ck).1 hL (zTn_m ck).2 hr
      | 6 =>
        intro he ck hr
        simp only at ck hr
        cases hm : pm_inv kK (pm_own kK j) ins st ph with
        | none => simp only [hm] at hr
        | some q =>
          obtain ⟨j', as, r2⟩ := q
          simp only [hm] at hr
          obtain ⟨v, ph', c1, s1, h1, h2⟩ := hr
          exact ih _ _ _ _ _ _ _ (by omega) (zTn_m ck).1 hL (zTn_m ck).2 h2
      | 7 =>
        intro he ck hr
        simp only at hr
        cases hm : pm_ret (pm_sig kK j).2.2 ins st with
        | none => simp only [hm] at hr
        | some u =>
          simp only [hm] at hr
          subst hr
          exact zTret (hw.imp id (fun q => q.2)) (hs (by unfold zTr; rw [he]; rfl)) hm
      | n + 8 => intro he ck hr; cases ck
theorem zTail {j n D pc : Nat} (t : List (List (Nat × Nat × Instr × Nat))) {w : Value} (lg : Bool) (i pc0 pc1 : Nat) {L : List (Option Value)} {st : List Value} {ph : pm_H} {Q : Option Value → pm_H → Prop} (hk : ∀ pc, pm_code kK j pc = pm_tl t pc) (hw : (∃ x, w = .int x) ∨ (lg = true ∧ ∃ x, w = .long x)) (chk : t.all (fun c => c.all (zTok t lg i pc0 pc1)) = true) (hp : pc0 ≤ pc) (hp1 : pc ≤ pc1) (hL : L[i]? = some (some w)) (hr : zTr t pc = false) (hQ : ∀ q, Q (some w) q) : zW n D j Q pc L st ph := fun k _ cs ss r h => by
  have h2 := zTail_k hk hw chk k pc L st ph cs ss r hp hp1 hL (fun q => by rw [hr] at q; cases q) h
  rw [h2]
  exact hQ _
