/-! PM: the tables as lists: rows of methods, links by owner -/
def pm_nth {α : Type} : List α → Nat → Option α
  | [], _ => none
  | a :: _, 0 => some a
  | _ :: t, n + 1 => pm_nth t n
def pm_lu {α : Type} : List (Nat × α) → Nat → Option α
  | [], _ => none
  | (k, v) :: t, n => bif Nat.beq k n then some v else pm_lu t n
def pm_nth2 {α : Type} (t : List (List α)) (n : Nat) : Option α := match pm_nth t (n / 16) with
  | some c => pm_nth c (n % 16)
  | none => none
def pm_tl {α : Type} (t : List (List (Nat × α))) (n : Nat) : Option α := match pm_nth t (n / 16) with
  | some c => pm_lu c n
  | none => none
theorem pm_nth_mem {α : Type} : ∀ {l : List α} {n : Nat} {a : α}, pm_nth l n = some a → a ∈ l := by
  intro l
  induction l with
  | nil => intro n a h; cases h
  | cons b t ih =>
    intro n a h
    cases n with
    | zero => cases h; exact List.mem_cons_self
    | succ n => exact List.mem_cons_of_mem _ (ih h)
theorem pm_lu_mem {α : Type} : ∀ {l : List (Nat × α)} {n : Nat} {a : α}, pm_lu l n = some a → (n, a) ∈ l := by
  intro l
  induction l with
  | nil => intro n a h; cases h
  | cons b t ih =>
    intro n a h
    obtain ⟨k, v⟩ := b
    rw [pm_lu] at h
    cases hb : Nat.beq k n with
    | true =>
      rw [hb] at h
      cases h
      have e : k = n := Nat.eq_of_beq_eq_true hb
      rw [e]
      exact List.mem_cons_self
    | false =>
      rw [hb] at h
      exact List.mem_cons_of_mem _ (ih h)
theorem pm_nth2_mem {α : Type} {t : List (List α)} {n : Nat} {a : α} (h : pm_nth2 t n = some a) : ∃ c ∈ t, a ∈ c := by
  unfold pm_nth2 at h
  split at h
  · next c hc => exact ⟨c, pm_nth_mem hc, pm_nth_mem h⟩
  · cases h
theorem pm_tl_mem {α : Type} {t : List (List (Nat × α))} {n : Nat} {a : α} (h : pm_tl t n = some a) : ∃ c ∈ t, (n, a) ∈ c := by
  unfold pm_tl at h
  split at h
  · next c hc => exact ⟨c, pm_nth_mem hc, pm_lu_mem h⟩
  · cases h
/-- a method: name, bytes, locals, type of answer; owner; parameters, locals, kind of answer; code -/
abbrev pm_Row : Type := (MethodName × ByteArray × Nat × Option FieldType) × Nat × (Nat × Nat × Nat) × List (List (Nat × Nat × Instr × Nat))
abbrev pm_Lks : Type := List (String × List (List (Nat × pm_L)))
def pm_rowM (rows : List (List pm_Row)) : pm_M := fun j => match pm_nth2 rows j with
  | some r => r.1
  | none => (⟨"", "", ""⟩, ⟨#[]⟩, 0, none)
def pm_lkT (lks : pm_Lks) (ow i : Nat) : Option pm_L := match pm_nth lks ow with
  | some o => pm_tl o.2 i
  | none => none
def pm_cn (lks : pm_Lks) (ow : Nat) : String := match pm_nth lks ow with
  | some o => o.1
  | none => ""
def pm_mkK (rows : List (List pm_Row)) (lks : pm_Lks) (ra : Nat → Option (Nat × Nat × (Nat → Value))) (ro : Nat → Nat → Option Value) (nw : Nat → List Value) (ft : Nat → Nat → FieldType) (ec : Nat) : pm_K :=
  (fun j pc => match pm_nth2 rows j with
    | some r => pm_tl r.2.2.2 pc
    | none => none, fun j => match pm_nth2 rows j with
    | some r => r.2.1
    | none => 0, fun ow i => pm_lkT lks ow i, fun j => match pm_nth2 rows j with
    | some r => r.2.2.1
    | none => (0, 0, 0), ra, ro, nw, ft, ec)
def pm_tokB (ins : Instr) (pc aux : Nat) : Bool := match ins with
  | .ifCond _ o => decide ((pc : Int) + o = (aux : Int))
  | .if_icmp _ o => decide ((pc : Int) + o = (aux : Int))
  | .goto o => decide ((pc : Int) + o = (aux : Int))
  | _ => true
theorem pm_tokB_ok {ins : Instr} {pc aux : Nat} (h : pm_tokB ins pc aux = true) : pm_tok ins pc aux := by
  unfold pm_tokB at h
  unfold pm_tok
  split at h
  · exact of_decide_eq_true h
  · exact of_decide_eq_true h
  · exact of_decide_eq_true h
  · next h1 h2 h3 =>
    split
    · next cnd o => exact absurd rfl (h1 cnd o)
    · next cnd o => exact absurd rfl (h2 cnd o)
    · next o => exact absurd rfl (h3 o)
    · trivial
def pm_finB (cl : List vw_C) (lk : Nat → Option pm_L) (y : MethodName) (ins : Instr) : Bool := match ins with
  | .putfield i => (match lk i with
      | some (6, ci, k, _) => (match cl[ci]? with
          | some q => bif (q.2.1 k).2.2.2 then decide (y.name = "<init>") && decide (q.1 = y.cls) else true
          | none => true)
      | _ => true)
  | _ => true
def pm_rkB (kd : Nat) (ret : Option FieldType) : Bool := match kd, ret with
  | 0, none => true
  | 1, some .int => true
  | 2, some .boolean => true
  | 3, some .long => true
  | 4, some (.object _) => true
  | 4, some (.array _) => true
  | 5, some .char => true
  | 6, some .byte => true
  | _, _ => false
theorem pm_rkB_ok {kd : Nat} {ret : Option FieldType} (h : pm_rkB kd ret = true) : pm_rk kd ret := by
  unfold pm_rkB at h
  split at h
  · exact ⟨fun _ => rfl, fun q => (by cases q), fun q => (by cases q), fun q => (by cases q), fun q => (by cases q), fun q => (by cases q), fun q => (by cases q)⟩
  · exact ⟨fun q => (by cases q), fun _ => rfl, fun q => (by cases q), fun q => (by cases q), fun q => (by cases q), fun q => (by cases q), fun q => (by cases q)⟩
  · exact ⟨fun q => (by cases q), fun q => (by cases q), fun _ => rfl, fun q => (by cases q), fun q => (by cases q), fun q => (by cases q), fun q => (by cases q)⟩
  · exact ⟨fun q => (by cases q), fun q => (by cases q), fun q => (by cases q), fun _ => rfl, fun q => (by cases q), fun q => (by cases q), fun q => (by cases q)⟩
  · exact ⟨fun q => (by cases q), fun q => (by cases q), fun q => (by cases q), fun q => (by cases q), fun _ => ⟨_, rfl, Or.inl ⟨_, rfl⟩⟩, fun q => (by cases q), fun q => (by cases q)⟩
  · exact ⟨fun q => (by cases q), fun q => (by cases q), fun q => (by cases q), fun q => (by cases q), fun _ => ⟨_, rfl, Or.inr ⟨_, rfl⟩⟩, fun q => (by cases q), fun q => (by cases q)⟩
  · exact ⟨fun q => (by cases q), fun q => (by cases q), fun q => (by cases q), fun q => (by cases q), fun q => (by cases q), fun _ => rfl, fun q => (by cases q)⟩
  · exact ⟨fun q => (by cases q), fun q => (by cases q), fun q => (by cases q), fun q => (by cases q), fun q => (by cases q), fun q => (by cases q), fun _ => rfl⟩
  · cases h
/-- what a row must give -/
def pm_rowok (cl : List vw_C) (ALL : List Cond) (lks : pm_Lks) (r : pm_Row) : Prop :=
  (∀ c ∈ r.2.2.2, ∀ q ∈ c, decode r.1.2.1 q.1 = .ok (q.2.2.1, pm_len q.2.2.1 q.2.2.2) ∧ pm_tokB q.2.2.1 q.1 q.2.2.2 = true ∧ pm_finB cl (pm_lkT lks r.2.1) r.1.1 q.2.2.1 = true) ∧
  (plainName r.1.1.cls = true ∧ r.1.1.cls ≠ "java/lang/invoke/MethodHandle" ∧ r.1.1.cls ≠ "java/lang/invoke/VarHandle" ∧ r.1.2.2.1 = r.2.2.1.2.1 ∧ r.1.2.2.1 ≤ 100 ∧ pm_rkB r.2.2.1.2.2 r.1.2.2.2 = true ∧ pm_cn lks r.2.1 = r.1.1.cls) ∧
  Cond.code r.1.1 r.1.2.1 r.1.2.2.1 r.1.2.2.2 ∈ ALL ∧ Cond.initialized r.1.1.cls ∈ ALL
/-- no piece of group 8 -/
def pm_no8 (r : pm_Row) : Bool := r.2.2.2.all (fun c => c.all (fun q => !Nat.beq q.2.1 8))
theorem pm_mk_ok {rows : List (List pm_Row)} {lks : pm_Lks} {ra : Nat → Option (Nat × Nat × (Nat → Value))} {ro : Nat → Nat → Option Value} {nw : Nat → List Value} {ft : Nat → Nat → FieldType} {ec : Nat} {cl : List vw_C} {ALL nws : List Cond} {zs : List (String × String × String × Value)} {rs : List (String × Nat × String × Nat)} {aos : List String} {rof : Nat → String × String × String} {E : String}
    (hl : ∀ o ∈ lks, ∀ c ∈ o.2, ∀ q ∈ c, pm_lk (pm_mkK rows lks ra ro nw ft ec) (pm_rowM rows) cl ALL nws zs rs aos rof o.1 q.1 q.2.1 q.2.2.1 q.2.2.2.1 q.2.2.2.2) (hck : pm_ck (pm_mkK rows lks ra ro nw ft ec) cl ALL) (hbs : pm_base ALL) (hnw : pm_nwf nws) (hG : GoodIn ALL ALL) (hE : ∀ r, cl[ec]? = some r → r.1 = E ∧ E ∈ aos)
    (hr : ∀ c ∈ rows, ∀ r ∈ c, pm_rowok cl ALL lks r) (h8 : ∀ c ∈ rows, ∀ r ∈ c, pm_no8 r = true ∨ ∀ c' ∈ r.2.2.2, ∀ q ∈ c', q.2.1 = 8 → pm_m8 (pm_mkK rows lks ra ro nw ft ec) r.1.2.1 ALL zs (pm_cn lks r.2.1) r.2.1 q.1 q.2.2.1 q.2.2.2) : pm_ok (pm_mkK rows lks ra ro nw ft ec) (pm_rowM rows) cl ALL nws zs rs aos rof (pm_cn lks) E := by
  have row : ∀ {mj pc : Nat} {e : Nat × Instr × Nat}, pm_code (pm_mkK rows lks ra ro nw ft ec) mj pc = some e → ∃ r, pm_nth2 rows mj = some r ∧ pm_tl r.2.2.2 pc = some e ∧ pm_rowok cl ALL lks r := by
    intro mj pc e h
    have h1 : (match pm_nth2 rows mj with
      | some r => pm_tl r.2.2.2 pc
      | none => none) = some e := h
    cases hn : pm_nth2 rows mj with
    | none => rw [hn] at h1; cases h1
    | some r =>
      rw [hn] at h1
      obtain ⟨c, hc, hrc⟩ := pm_nth2_mem hn
      exact ⟨r, rfl, h1, hr c hc r hrc⟩
  have own : ∀ {mj : Nat} {r : pm_Row}, pm_nth2 rows mj = some r → pm_own (pm_mkK rows lks ra ro nw ft ec) mj = r.2.1 := by
    intro mj r h
    show (match pm_nth2 rows mj with
      | some r => r.2.1
      | none => 0) = _
    rw [h]
  have sig : ∀ {mj : Nat} {r : pm_Row}, pm_nth2 rows mj = some r → pm_sig (pm_mkK rows lks ra ro nw ft ec) mj = r.2.2.1 := by
    intro mj r h
    show (match pm_nth2 rows mj with
      | some r => r.2.2.1
      | none => (0, 0, 0)) = _
    rw [h]
  have eM : ∀ {mj : Nat} {r : pm_Row}, pm_nth2 rows mj = some r → pm_rowM rows mj = r.1 := by
    intro mj r h
    unfold pm_rowM
    rw [h]
  refine ⟨fun ow i kd a b v h => ?_, hck, hbs, hnw, hG, hE, fun mj pc g ins aux h => ?_, fun mj q h => ?_, fun mj pc ins aux h => ?_⟩
  · have h1 : pm_lkT lks ow i = some (kd, a, b, v) := h
    unfold pm_lkT at h1
    unfold pm_cn
    cases hn : pm_nth lks ow with
    | none => rw [hn] at h1; cases h1
    | some o =>
      rw [hn] at h1
      obtain ⟨c, hc, hq⟩ := pm_tl_mem h1
      exact hl o (pm_nth_mem hn) c hc _ hq
  · obtain ⟨r, h1, h2, h3, -⟩ := row h
    obtain ⟨c, hc, hq⟩ := pm_tl_mem h2
    obtain ⟨g1, g2, g3⟩ := h3 c hc _ hq
    rw [eM h1]
    refine ⟨g1, pm_tokB_ok g2, fun i ci k v e1 e2 C T N e3 e4 => ?_⟩
    rw [own h1] at e2 ⊢
    have e5 : pm_lkT lks r.2.1 i = some (6, ci, k, v) := e2
    obtain ⟨r2, h12, -, -, ⟨-, -, -, -, -, -, hcn⟩, -⟩ := row h
    cases h1.symm.trans h12
    subst e1
    have g4 : (bif (T k).2.2.2 then decide (r.1.1.name = "<init>") && decide (C = r.1.1.cls) else true) = true := by
      have g5 := g3
      unfold pm_finB at g5
      simp only [e5, e3] at g5
      exact g5
    rw [e4] at g4
    obtain ⟨g6, g7⟩ := pm_and g4
    exact ⟨of_decide_eq_true g6, by rw [hcn]; exact of_decide_eq_true g7⟩
  · obtain ⟨r, h1, -, -, ⟨m1, m4, m5, m6, m7, m8, m9⟩, m2, m3⟩ := row h
    rw [eM h1, sig h1, own h1]
    exact ⟨m1, m2, m3, m4, m5, m6, m7, pm_rkB_ok m8, m9⟩
  · obtain ⟨r, h1, h2, -⟩ := row h
    obtain ⟨c', hc', hq'⟩ := pm_tl_mem h2
    obtain ⟨c, hc, hrc⟩ := pm_nth2_mem h1
    rw [eM h1, own h1]
    rcases h8 c hc r hrc with h9 | h9
    · have h10 := List.all_eq_true.mp (List.all_eq_true.mp h9 c' hc') _ hq'
      cases h10
    · exact h9 c' hc' _ hq' rfl
/-! a link, by its kind -/
section PMLK
variable {K : pm_K} {M : pm_M} {cl : List vw_C} {ALL nws : List Cond} {zs : List (String × String × String × Value)} {rs : List (String × Nat × String × Nat)} {aos : List String} {rof : Nat → String × String × String} {own : String} {i a b : Nat} {v : Value}
theorem pm_lk6 {C : String} {T : u_T} {N : Nat} (h1 : cl[a]? = some (C, T, N)) (h2 : b < N) (h3 : Cond.fieldLink own i C (T b).2.1 (T b).2.2.1 ∈ ALL) : pm_lk K M cl ALL nws zs rs aos rof own i 6 a b v :=
  ⟨fun _ => ⟨C, T, N, h1, h2, h3⟩, fun q => (by cases q), fun q => (by cases q), fun q => (by cases q), fun q => (by cases q), fun q => (by cases q), fun q => (by cases q), fun q => (by cases q), fun q => (by cases q), fun q => (by cases q), fun q => (by rcases q with q | q | q <;> cases q), fun q => (by cases q), fun q => (by cases q), fun q => (by cases q), fun q => (by cases q), fun q => (by cases q), fun q => (by cases q)⟩
theorem pm_lk7 (h : Cond.fieldLink own i (rof a).1 (rof a).2.1 (rof a).2.2 ∈ ALL) : pm_lk K M cl ALL nws zs rs aos rof own i 7 a b v :=
  ⟨fun q => (by cases q), fun _ => h, fun q => (by cases q), fun q => (by cases q), fun q => (by cases q), fun q => (by cases q), fun q => (by cases q), fun q => (by cases q), fun q => (by cases q), fun q => (by cases q), fun q => (by rcases q with q | q | q <;> cases q), fun q => (by cases q), fun q => (by cases q), fun q => (by cases q), fun q => (by cases q), fun q => (by cases q), fun q => (by cases q)⟩
theorem pm_lk8 {C n d : String} (h1 : (C, n, d, v) ∈ zs) (h0 : v ≠ .ref 1048579) (h2 : Cond.fieldLink own i C n d ∈ ALL) : pm_lk K M cl ALL nws zs rs aos rof own i 8 a b v :=
  ⟨fun q => (by cases q), fun q => (by cases q), fun _ => ⟨C, n, d, h1, h0, h2⟩, fun q => (by cases q), fun q => (by cases q), fun q => (by cases q), fun q => (by cases q), fun q => (by cases q), fun q => (by cases q), fun q => (by cases q), fun q => (by rcases q with q | q | q <;> cases q), fun q => (by cases q), fun q => (by cases q), fun q => (by cases q), fun q => (by cases q), fun q => (by cases q), fun q => (by cases q)⟩
theorem pm_lk9 {C : String} {T : u_T} (h1 : cl[a]? = some (C, T, b)) (h2 : Cond.classLink own i C ∈ ALL) : pm_lk K M cl ALL nws zs rs aos rof own i 9 a b v :=
  ⟨fun q => (by cases q), fun q => (by cases q), fun q => (by cases q), fun _ => ⟨C, T, h1, h2⟩, fun q => (by cases q), fun q => (by cases q), fun q => (by cases q), fun q => (by cases q), fun q => (by cases q), fun q => (by cases q), fun q => (by rcases q with q | q | q <;> cases q), fun q => (by cases q), fun q => (by cases q), fun q => (by cases q), fun q => (by cases q), fun q => (by cases q), fun q => (by cases q)⟩
theorem pm_lk10 {x : Int32} (h : Cond.constant own i x ∈ ALL) : pm_lk K M cl ALL nws zs rs aos rof own i 10 a b (.int x) :=
  ⟨fun q => (by cases q), fun q => (by cases q), fun q => (by cases q), fun q => (by cases q), fun _ => ⟨x, rfl, h⟩, fun q => (by cases q), fun q => (by cases q), fun q => (by cases q), fun q => (by cases q), fun q => (by cases q), fun q => (by rcases q with q | q | q <;> cases q), fun q => (by cases q), fun q => (by cases q), fun q => (by cases q), fun q => (by cases q), fun q => (by cases q), fun q => (by cases q)⟩
theorem pm_lk11 {x : Int64} (h : Cond.constantLong own i x ∈ ALL) : pm_lk K M cl ALL nws zs rs aos rof own i 11 a b (.long x) :=
  ⟨fun q => (by cases q), fun q => (by cases q), fun q => (by cases q), fun q => (by cases q), fun q => (by cases q), fun _ => ⟨x, rfl, h⟩, fun q => (by cases q), fun q => (by cases q), fun q => (by cases q), fun q => (by cases q), fun q => (by rcases q with q | q | q <;> cases q), fun q => (by cases q), fun q => (by cases q), fun q => (by cases q), fun q => (by cases q), fun q => (by cases q), fun q => (by cases q)⟩
theorem pm_lk12 {tx : String} {k : Nat} (h : (own, i, tx, k) ∈ rs) : pm_lk K M cl ALL nws zs rs aos rof own i 12 a b (.ref k) :=
  ⟨fun q => (by cases q), fun q => (by cases q), fun q => (by cases q), fun q => (by cases q), fun q => (by cases q), fun q => (by cases q), fun _ => ⟨tx, k, rfl, h⟩, fun q => (by cases q), fun q => (by cases q), fun q => (by cases q), fun q => (by rcases q with q | q | q <;> cases q), fun q => (by cases q), fun q => (by cases q), fun q => (by cases q), fun q => (by cases q), fun q => (by cases q), fun q => (by cases q)⟩
theorem pm_lk4 (h : Cond.methodLink own i Lib.objectInit ∈ ALL) : pm_lk K M cl ALL nws zs rs aos rof own i 4 a b v :=
  ⟨fun q => (by cases q), fun q => (by cases q), fun q => (by cases q), fun q => (by cases q), fun q => (by cases q), fun q => (by cases q), fun q => (by cases q), fun q => (by cases q), fun _ => h, fun q => (by cases q), fun q => (by rcases q with q | q | q <;> cases q), fun q => (by cases q), fun q => (by cases q), fun q => (by cases q), fun q => (by cases q), fun q => (by cases q), fun q => (by cases q)⟩
theorem pm_lk5 (h : Cond.methodLink own i arraycopyName ∈ ALL) : pm_lk K M cl ALL nws zs rs aos rof own i 5 a b v :=
  ⟨fun q => (by cases q), fun q => (by cases q), fun q => (by cases q), fun q => (by cases q), fun q => (by cases q), fun q => (by cases q), fun q => (by cases q), fun q => (by cases q), fun q => (by cases q), fun _ => h, fun q => (by rcases q with q | q | q <;> cases q), fun q => (by cases q), fun q => (by cases q), fun q => (by cases q), fun q => (by cases q), fun q => (by cases q), fun q => (by cases q)⟩
theorem pm_lk1 (h : Cond.methodLink own i (M a).1 ∈ ALL ∨ ∃ h, Cond.methodLinkNest own i (M a).1 h ∈ nws) (hn : (parseMethodDescriptor (M a).1.desc).map (fun d => d.parameters.length) = some b) (hs : Cond.static (M a).1 ∈ ALL) : pm_lk K M cl ALL nws zs rs aos rof own i 1 a b v :=
  ⟨fun q => (by cases q), fun q => (by cases q), fun q => (by cases q), fun q => (by cases q), fun q => (by cases q), fun q => (by cases q), fun q => (by cases q), fun q => (by cases q), fun q => (by cases q), fun q => (by cases q), fun _ => ⟨h, hn⟩, fun _ => hs, fun q => (by cases q), fun q => (by cases q), fun q => (by cases q), fun q => (by cases q), fun q => (by cases q)⟩
theorem pm_lk2 {ci : Nat} {T : u_T} {N : Nat} (h : Cond.methodLink own i (M a).1 ∈ ALL ∨ ∃ h, Cond.methodLinkNest own i (M a).1 h ∈ nws) (hn : (parseMethodDescriptor (M a).1.desc).map (fun d => d.parameters.length) = some b) (hi : Cond.instanceMethod (M a).1 ∈ ALL) (hs : Cond.selects (M a).1.cls (M a).1 (M a).1 ∈ ALL) (hc : cl[ci]? = some ((M a).1.cls, T, N)) : pm_lk K M cl ALL nws zs rs aos rof own i 2 a b (.ref ci) :=
  ⟨fun q => (by cases q), fun q => (by cases q), fun q => (by cases q), fun q => (by cases q), fun q => (by cases q), fun q => (by cases q), fun q => (by cases q), fun q => (by cases q), fun q => (by cases q), fun q => (by cases q), fun _ => ⟨h, hn⟩, fun q => (by cases q), fun _ => ⟨hi, hs, fun ci' e => (by cases e; exact ⟨T, N, hc⟩), fun e => (by cases e)⟩, fun q => (by cases q), fun q => (by cases q), fun q => (by cases q), fun q => (by cases q)⟩
theorem pm_lk2s (h : Cond.methodLink own i (M a).1 ∈ ALL ∨ ∃ h, Cond.methodLinkNest own i (M a).1 h ∈ nws) (hn : (parseMethodDescriptor (M a).1.desc).map (fun d => d.parameters.length) = some b) (hi : Cond.instanceMethod (M a).1 ∈ ALL) (hs : Cond.selects (M a).1.cls (M a).1 (M a).1 ∈ ALL) (hc : (M a).1.cls = "java/lang/String") : pm_lk K M cl ALL nws zs rs aos rof own i 2 a b .null :=
  ⟨fun q => (by cases q), fun q => (by cases q), fun q => (by cases q), fun q => (by cases q), fun q => (by cases q), fun q => (by cases q), fun q => (by cases q), fun q => (by cases q), fun q => (by cases q), fun q => (by cases q), fun _ => ⟨h, hn⟩, fun q => (by cases q), fun _ => ⟨hi, hs, fun ci' e => (by cases e), fun _ => hc⟩, fun q => (by cases q), fun q => (by cases q), fun q => (by cases q), fun q => (by cases q)⟩
theorem pm_lk3 (h : Cond.methodLink own i (M a).1 ∈ ALL ∨ ∃ h, Cond.methodLinkNest own i (M a).1 h ∈ nws) (hn : (parseMethodDescriptor (M a).1.desc).map (fun d => d.parameters.length) = some b) (h1 : (M a).1.name = "<init>") (hi : Cond.instanceMethod (M a).1 ∈ ALL) (hr : (M a).2.2.2 = none) : pm_lk K M cl ALL nws zs rs aos rof own i 3 a b v :=
  ⟨fun q => (by cases q), fun q => (by cases q), fun q => (by cases q), fun q => (by cases q), fun q => (by cases q), fun q => (by cases q), fun q => (by cases q), fun q => (by cases q), fun q => (by cases q), fun q => (by cases q), fun _ => ⟨h, hn⟩, fun q => (by cases q), fun q => (by cases q), fun _ => ⟨h1, hi, hr⟩, fun q => (by cases q), fun q => (by cases q), fun q => (by cases q)⟩
theorem pm_lk15 (h : Cond.methodLink own i Lib.Math.max.name ∈ ALL) : pm_lk K M cl ALL nws zs rs aos rof own i 15 a b v :=
  ⟨fun q => (by cases q), fun q => (by cases q), fun q => (by cases q), fun q => (by cases q), fun q => (by cases q), fun q => (by cases q), fun q => (by cases q), fun q => (by cases q), fun q => (by cases q), fun q => (by cases q), fun q => (by rcases q with q | q | q <;> cases q), fun q => (by cases q), fun q => (by cases q), fun q => (by cases q), fun _ => h, fun q => (by cases q), fun q => (by cases q)⟩
theorem pm_lk16 (h : Cond.methodLink own i Lib.Math.min.name ∈ ALL) : pm_lk K M cl ALL nws zs rs aos rof own i 16 a b v :=
  ⟨fun q => (by cases q), fun q => (by cases q), fun q => (by cases q), fun q => (by cases q), fun q => (by cases q), fun q => (by cases q), fun q => (by cases q), fun q => (by cases q), fun q => (by cases q), fun q => (by cases q), fun q => (by rcases q with q | q | q <;> cases q), fun q => (by cases q), fun q => (by cases q), fun q => (by cases q), fun q => (by cases q), fun _ => h, fun q => (by cases q)⟩
theorem pm_lk17 (h : Cond.methodLink own i Lib.Math.abs.name ∈ ALL) : pm_lk K M cl ALL nws zs rs aos rof own i 17 a b v :=
  ⟨fun q => (by cases q), fun q => (by cases q), fun q => (by cases q), fun q => (by cases q), fun q => (by cases q), fun q => (by cases q), fun q => (by cases q), fun q => (by cases q), fun q => (by cases q), fun q => (by cases q), fun q => (by rcases q with q | q | q <;> cases q), fun q => (by cases q), fun q => (by cases q), fun q => (by cases q), fun q => (by cases q), fun q => (by cases q), fun _ => h⟩
end PMLK
