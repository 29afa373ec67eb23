/-! tails whose answer is 0 -/
def zTi0 (ins : Instr) : Bool := match ins with
  | .iconst n => decide (n = 0)
  | _ => false
theorem zTi0_ok {ins : Instr} {st st' : List Value} (h : zTi0 ins = true) (hm : pm_alu ins st = some st') : st'.head? = some (.int (Int32.ofInt 0)) := by
  have e : ins = .iconst 0 := by
    cases ins <;> first | cases h | exact congrArg Instr.iconst (of_decide_eq_true h)
  subst e
  unfold pm_alu at hm
  simp only at hm
  cases hm
  rfl
theorem zTldm {m : Nat} {ins : Instr} {L : List (Option Value)} {v : Value} (h : pm_load ins L = some (v, m)) : m = zml 2 ins := by
  unfold pm_load at h
  repeat' split at h
  all_goals first
    | (cases h; done)
    | (cases h; rfl)
theorem zTstm {m : Nat} {ins : Instr} {L L' : List (Option Value)} {st st' : List Value} (h : pm_store ins L st = some (L', st', m)) : m = zml 3 ins := by
  unfold pm_store at h
  repeat' split at h
  all_goals first
    | (cases h; done)
    | (have h2 := zbif h; cases h2; rfl)
def zTok0 (t : List (List (Nat × Nat × Instr × Nat))) (pc0 pc1 : Nat) (q : Nat × Nat × Instr × Nat) : Bool := bif Nat.blt q.1 pc0 then true else bif Nat.blt pc1 q.1 then true else match q.2 with
  | (0, ins, _) => (zTi0 ins && Nat.ble (q.1 + 1) pc1) || zTn t pc1 (q.1 + 1)
  | (1, ins, _) => zTn t pc1 (q.1 + zml 1 ins)
  | (2, ins, _) => zTn t pc1 (q.1 + zml 2 ins)
  | (3, ins, _) => zTn t pc1 (q.1 + zml 3 ins)
  | (4, ins, aux) => (zTg ins || (zTcb ins && zTn t pc1 (q.1 + 3))) && (Nat.ble pc0 aux && zTn t pc1 aux)
  | (5, ins, _) => zTn t pc1 (q.1 + zml 5 ins)
  | (6, _, _) => zTn t pc1 (q.1 + 3)
  | (7, _, _) => true
  | _ => false
theorem zTail0_k {j pc0 pc1 D : Nat} {t : List (List (Nat × Nat × Instr × Nat))} (hk : ∀ pc, pm_code kK j pc = pm_tl t pc) (chk : t.all (fun c => c.all (zTok0 t pc0 pc1)) = true) : ∀ (k : Nat) (pc : Nat) (L : List (Option Value)) (st : List Value) (ph : pm_H) (cs ss : Nat) (r : pm_R), pc0 ≤ pc → pc ≤ pc1 → (zTr t pc = true → st.head? = some (.int (Int32.ofInt 0))) → pm_Tn kK false (pm_Rd kK false D) j k (pc, L, st, ph, cs, ss) r → r.1 = some (.int (Int32.ofInt 0)) := by
  intro k
  induction k with
  | zero => intro pc L st ph cs ss r hp hp1 hs hr; exact hr.elim
  | succ k ih =>
    intro pc L st ph cs ss r hp hp1 hs hr
    rw [pm_Tn] at hr
    unfold pm_step at hr
    cases he : pm_tl t pc with
    | none => simp only [hk, he] at hr
    | some e =>
      obtain ⟨g, ins, aux⟩ := e
      obtain ⟨c, hc, hq⟩ := pm_tl_mem he
      have ck := List.all_eq_true.mp (List.all_eq_true.mp chk c hc) _ hq
      have hb : Nat.blt pc pc0 = false := by
        cases h : Nat.blt pc pc0 with
        | false => rfl
        | true => exact absurd (Nat.le_of_ble_eq_true h) (by omega)
      have hb1 : Nat.blt pc1 pc = false := by
        cases h : Nat.blt pc1 pc with
        | false => rfl
        | true => exact absurd (Nat.le_of_ble_eq_true h) (by omega)
      unfold zTok0 at ck
      simp only [hb, hb1, cond_false] at ck
      simp only [hk, he] at hr
      clear hq
      revert ck hr he
      match g with
      | 0 =>
        intro he ck hr
        simp only at ck hr
        cases hm : pm_alu ins st with
        | none => simp only [hm] at hr
        | some st' =>
          simp only [hm] at hr
          rcases Bool.or_eq_true_iff.mp ck with ck | ck
          · obtain ⟨k1, k2⟩ := Bool.and_eq_true_iff.mp ck
            exact ih _ _ _ _ _ _ _ (by omega) (Nat.le_of_ble_eq_true k2) (fun _ => zTi0_ok k1 hm) hr
          · exact ih _ _ _ _ _ _ _ (by omega) (zTn_m ck).1 (zTn_m ck).2 hr
      | 1 =>
        intro he ck hr
        simp only at ck hr
        cases hm : pm_push kK (pm_own kK j) ins with
        | none => simp only [hm] at hr
        | some q =>
          obtain ⟨v, m⟩ := q
          simp only [hm] at hr
          have e := zTpush hm
          subst e
          exact ih _ _ _ _ _ _ _ (by omega) (zTn_m ck).1 (zTn_m ck).2 hr
      | 2 =>
        intro he ck hr
        simp only at ck hr
        cases hm : pm_load ins L with
        | none => simp only [hm] at hr
        | some q =>
          obtain ⟨v, m⟩ := q
          simp only [hm] at hr
          have e := zTldm hm
          subst e
          exact ih _ _ _ _ _ _ _ (by omega) (zTn_m ck).1 (zTn_m ck).2 hr
      | 3 =>
        intro he ck hr
        simp only at ck hr
        cases hm : pm_store ins L st with
        | none => simp only [hm] at hr
        | some q =>
          obtain ⟨L', st', m⟩ := q
          simp only [hm] at hr
          have e := zTstm hm
          subst e
          exact ih _ _ _ _ _ _ _ (by omega) (zTn_m ck).1 (zTn_m ck).2 hr
      | 4 =>
        intro he ck hr
        simp only at ck hr
        obtain ⟨k1, k2⟩ := Bool.and_eq_true_iff.mp ck
        obtain ⟨k2, k3⟩ := Bool.and_eq_true_iff.mp k2
        have k4 : (zTg ins || zTcb ins) = true ∧ (zTcb ins = true → zTg ins = false → zTn t pc1 (pc + 3) = true) := by
          cases h1 : zTg ins with
          | true => exact ⟨rfl, fun _ q => by cases q⟩
          | false =>
            rw [h1, Bool.false_or] at k1
            obtain ⟨k5, k6⟩ := Bool.and_eq_true_iff.mp k1
            exact ⟨by rw [k5]; rfl, fun _ _ => k6⟩
        cases hm : pm_br ins aux pc st with
        | none => simp only [hm] at hr
        | some q =>
          obtain ⟨pc', st'⟩ := q
          simp only [hm] at hr
          rcases zTbr k4.1 hm with rfl | ⟨hc2, rfl⟩
          · exact ih _ _ _ _ _ _ _ (Nat.le_of_ble_eq_true k2) (zTn_m k3).1 (zTn_m k3).2 hr
          · have hg : zTg ins = false := by
              cases ins <;> first | rfl | cases hc2
            have k5 := k4.2 hc2 hg
            exact ih _ _ _ _ _ _ _ (by omega) (zTn_m k5).1 (zTn_m k5).2 hr
      | 5 =>
        intro he ck hr
        simp only at ck hr
        cases hm : pm_mem kK false (pm_own kK j) ins st ph with
        | none => simp only [hm] at hr
        | some q =>
          obtain ⟨m, st', ph', c1, s1⟩ := q
          simp only [hm] at hr
          have e := zTmem hm
          subst e
          exact ih _ _ _ _ _ _ _ (by omega) (zTn_m ck).1 (zTn_m ck).2 hr
      | 6 =>
        intro he ck hr
        simp only at ck hr
        cases hm : pm_inv kK (pm_own kK j) ins st ph with
        | none => simp only [hm] at hr
        | some q =>
          obtain ⟨j', as, r2⟩ := q
          simp only [hm] at hr
          obtain ⟨v, ph', c1, s1, h1, h2⟩ := hr
          exact ih _ _ _ _ _ _ _ (by omega) (zTn_m ck).1 (zTn_m ck).2 h2
      | 7 =>
        intro he ck hr
        simp only at hr
        cases hm : pm_ret (pm_sig kK j).2.2 ins st with
        | none => simp only [hm] at hr
        | some u =>
          simp only [hm] at hr
          subst hr
          exact zTret (Or.inl ⟨_, rfl⟩) (hs (by unfold zTr; rw [he]; rfl)) hm
      | n + 8 => intro he ck hr; cases ck
theorem zTail0 {j n D pc : Nat} (t : List (List (Nat × Nat × Instr × Nat))) (pc0 pc1 : Nat) {L : List (Option Value)} {st : List Value} {ph : pm_H} {Q : Option Value → pm_H → Prop} (hk : ∀ pc, pm_code kK j pc = pm_tl t pc) (chk : t.all (fun c => c.all (zTok0 t pc0 pc1)) = true) (hp : pc0 ≤ pc) (hp1 : pc ≤ pc1) (hr : zTr t pc = false) (hQ : ∀ q, Q (some (.int (Int32.ofInt 0))) q) : zW n D j Q pc L st ph := fun k _ cs ss r h => by
  have h2 := zTail0_k hk chk k pc L st ph cs ss r hp hp1 (fun q => by rw [hr] at q; cases q) h
  rw [h2]
  exact hQ _
