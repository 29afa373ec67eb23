/-! PM: what stands between the pure machine and the kit's worlds; groups 0 to 4 -/
def pm_ad (B : Nat) (ra : Nat → Nat) (k : Nat) : Nat := bif Nat.blt k 1048576 then B + k else ra (k - 1048576)
def pm_u (ad : Nat → Nat) (v : Value) : Value := match v with
  | .ref k => .ref (ad k)
  | w => w
def pm_e (ad : Nat → Nat) (dA : Nat → ClassId) (c : pm_C) : va_E := match c with
  | .inl (t, .inl l) => .inl (dA t, l.length, .inl fun j => l.getD j 0)
  | .inl (t, .inr (.inl l)) => .inl (dA t, l.length, .inr (.inl fun j => l.getD j 0))
  | .inl (t, .inr (.inr l)) => .inl (dA t, l.length, .inr (.inr (.inr (.inr fun j => (l.getD j none).map ad))))
  | .inr (ci, fs) => .inr (ci, fs.map (pm_u ad))
theorem pm_ix_ok {α : Type} {l : List α} {i : Int32} {x : α} (h : pm_ix l i = some x) : vp_in i l.length ∧ l[i.toNatClampNeg]? = some x ∧ i.toNatClampNeg < l.length := by
  unfold pm_ix at h
  cases hd : decide (i < 0) with
  | true => rw [hd] at h; cases h
  | false =>
    rw [hd] at h
    have h1 : ¬ i < 0 := of_decide_eq_false hd
    have h2 : l[i.toNatClampNeg]? = some x := h
    have h3 : i.toNatClampNeg < l.length := (List.getElem?_eq_some_iff.mp h2).1
    refine ⟨?_, h2, h3⟩
    intro q
    rcases q with q | q
    · exact h1 q
    · exact absurd h3 (Nat.not_lt.mpr q)
theorem pm_ixD {α : Type} {l : List α} {i : Int32} {x : α} (d : α) (h : pm_ix l i = some x) : l.getD i.toNatClampNeg d = x := by
  rw [List.getD_eq_getElem?_getD, (pm_ix_ok h).2.1]
  rfl
theorem pm_up_ok {α : Type} {l l' : List α} {i : Int32} {x : α} (h : pm_up l i x = some l') : vp_in i l.length ∧ l' = l.set i.toNatClampNeg x ∧ i.toNatClampNeg < l.length := by
  unfold pm_up at h
  split at h
  · next y hy => exact ⟨(pm_ix_ok hy).1, (Option.some.inj h).symm, (pm_ix_ok hy).2.2⟩
  · cases h
theorem pm_setD {α : Type} (l : List α) (k : Nat) (x d : α) (h : k < l.length) : (fun j => (l.set k x).getD j d) = fun j => if j = k then x else l.getD j d := by
  funext j
  rw [List.getD_eq_getElem?_getD, List.getD_eq_getElem?_getD]
  by_cases hj : j = k
  · subst hj
    rw [List.getElem?_set_self h, if_pos rfl]
    rfl
  · rw [List.getElem?_set_ne (Ne.symm hj), if_neg hj]
theorem pm_cpy_len {α : Type} {l m : List α} {sp dp n : Nat} (h1 : sp + n ≤ l.length) (h2 : dp + n ≤ m.length) : (pm_cpy l m sp dp n).length = m.length := by
  unfold pm_cpy
  simp
  omega
theorem pm_cpyD {α : Type} {l m : List α} {sp dp n : Nat} (d : α) (h1 : sp + n ≤ l.length) (h2 : dp + n ≤ m.length) : (fun j => (pm_cpy l m sp dp n).getD j d) = va_cpy (fun j => l.getD j d) (fun j => m.getD j d) sp dp n := by
  funext j
  unfold va_cpy
  simp only [List.getD_eq_getElem?_getD]
  have e1 : (m.take dp).length = dp := by simp; omega
  have e2 : ((l.drop sp).take n).length = n := by simp; omega
  unfold pm_cpy
  by_cases a : dp ≤ j ∧ j < dp + n
  · rw [if_pos a, List.getElem?_append_right (by omega), e1, List.getElem?_append_left (by omega), List.getElem?_take_of_lt (by omega), List.getElem?_drop]
  · rw [if_neg a]
    by_cases b : j < dp
    · rw [List.getElem?_append_left (by omega), List.getElem?_take_of_lt b]
    · rw [List.getElem?_append_right (by omega), e1, List.getElem?_append_right (by omega), e2, List.getElem?_drop]
      rw [show dp + n + (j - dp - n) = j by omega]
theorem pm_repD {α : Type} (n : Nat) (d : α) : (fun j => (List.replicate n d).getD j d) = fun _ => d := by
  funext j
  rw [List.getD_eq_getElem?_getD, List.getElem?_replicate]
  split <;> rfl
def pm_ws (ad : Nat → Nat) (dA : Nat → ClassId) : Nat → pm_H → va_W
  | _, [] => []
  | b, c :: t => (b, pm_e ad dA c) :: pm_ws ad dA (b + 1) t
theorem pm_ws_get (ad : Nat → Nat) (dA : Nat → ClassId) : ∀ (ph : pm_H) (b k : Nat), (pm_ws ad dA b ph)[k]? = (ph[k]?).map (fun c => (b + k, pm_e ad dA c)) := by
  intro ph
  induction ph with
  | nil => intro b k; simp [pm_ws]
  | cons c t ih =>
    intro b k
    cases k with
    | zero => simp [pm_ws]
    | succ k =>
      rw [pm_ws, List.getElem?_cons_succ, List.getElem?_cons_succ, ih]
      rw [show b + 1 + k = b + (k + 1) by omega]
theorem pm_ws_set (ad : Nat → Nat) (dA : Nat → ClassId) (c : pm_C) : ∀ (ph : pm_H) (b k : Nat), pm_ws ad dA b (ph.set k c) = (pm_ws ad dA b ph).set k (b + k, pm_e ad dA c) := by
  intro ph
  induction ph with
  | nil => intro b k; simp [pm_ws]
  | cons d t ih =>
    intro b k
    cases k with
    | zero => simp [pm_ws]
    | succ k =>
      rw [List.set_cons_succ, pm_ws, pm_ws, List.set_cons_succ, ih]
      rw [show b + 1 + k = b + (k + 1) by omega]
theorem pm_ws_app (ad : Nat → Nat) (dA : Nat → ClassId) (c : pm_C) : ∀ (ph : pm_H) (b : Nat), pm_ws ad dA b (ph ++ [c]) = pm_ws ad dA b ph ++ [(b + ph.length, pm_e ad dA c)] := by
  intro ph
  induction ph with
  | nil => intro b; simp [pm_ws]
  | cons d t ih =>
    intro b
    rw [List.cons_append, pm_ws, pm_ws, List.cons_append, ih, List.length_cons]
    rw [show b + 1 + t.length = b + (t.length + 1) by omega]
theorem pm_ws_D (ad : Nat → Nat) (dA : Nat → ClassId) (ph : pm_H) (b : Nat) : va_D (fun q => b ≤ q) (pm_ws ad dA b ph) := by
  have key : ∀ (i : Nat) (p : Nat × va_E), (pm_ws ad dA b ph)[i]? = some p → p.1 = b + i := by
    intro i p h
    rw [pm_ws_get] at h
    cases hc : ph[i]? with
    | none => rw [hc] at h; cases h
    | some c => rw [hc] at h; cases h; rfl
  refine ⟨fun i j p q hp hq e => ?_, fun k q hq => ?_⟩
  · have h1 := key i p hp
    have h2 := key j q hq
    omega
  · have h1 := key k q hq
    show b ≤ q.1
    omega
theorem pm_at_some {ph : pm_H} {a : Nat} {c : pm_C} (h : pm_at ph a = some c) : a < 1048576 ∧ ph[a]? = some c := by
  unfold pm_at at h
  cases hb : Nat.blt a 1048576 with
  | false => rw [hb] at h; cases h
  | true =>
    rw [hb] at h
    exact ⟨Nat.le_of_ble_eq_true hb, h⟩
theorem pm_ad_lo {B : Nat} {ra : Nat → Nat} {a : Nat} (h : a < 1048576) : pm_ad B ra a = B + a := by
  have hb : Nat.blt a 1048576 = true := Nat.ble_eq_true_of_le h
  unfold pm_ad
  rw [hb]
  rfl
theorem pm_inb_in {i : Int32} {n : Nat} (h : pm_inb i n = true) : vp_in i n := by
  unfold pm_inb at h
  cases hd : decide (i < 0) with
  | true => rw [hd] at h; cases h
  | false =>
    rw [hd] at h
    have h1 : ¬ i < 0 := of_decide_eq_false hd
    have h2 : i.toNatClampNeg < n := Nat.le_of_ble_eq_true h
    intro q
    rcases q with q | q
    · exact h1 q
    · exact absurd h2 (Nat.not_lt.mpr q)
theorem pm_u_cat (ad : Nat → Nat) (v : Value) : (pm_u ad v).category = v.category := by cases v <;> rfl
theorem pm_u_sum (ad : Nat → Nat) (r : List Value) : ((r.map (pm_u ad)).map fun v => v.category).sum = (r.map fun v => v.category).sum := by
  rw [List.map_map]
  congr 1
  apply List.map_congr_left
  intro v _
  exact pm_u_cat ad v
theorem pm_fit_ok {ad : Nat → Nat} {ty : FieldType} {v : Value} (h : pm_fit ty v = true) : narrow ty (pm_u ad v) = pm_u ad v ∧ fits ty (pm_u ad v) = true := by
  unfold pm_fit at h
  split at h
  · exact ⟨rfl, rfl⟩
  · exact ⟨rfl, rfl⟩
  · next x =>
    cases hd : decide (x = 0) with
    | true =>
      have e : x = 0 := of_decide_eq_true hd
      subst e
      exact ⟨show narrow .boolean (.int 0) = .int 0 by decide +kernel, show fits .boolean (.int 0) = true by decide +kernel⟩
    | false =>
      rw [hd] at h
      have e : x = 1 := of_decide_eq_true h
      subst e
      exact ⟨show narrow .boolean (.int 1) = .int 1 by decide +kernel, show fits .boolean (.int 1) = true by decide +kernel⟩
  · exact ⟨rfl, rfl⟩
  · exact ⟨rfl, rfl⟩
  · exact ⟨rfl, rfl⟩
  · exact ⟨rfl, rfl⟩
  · cases h
/-- the variables -/
def pm_lr (ad : Nat → Nat) (ls : Array Slot) (nL : Nat) (L : List (Option Value)) : Prop := ls.size = nL ∧ L.length = nL ∧ lv_wf ls ∧ ∀ (i : Nat) (v : Value), L[i]? = some (some v) → ls[i]? = some (.val (pm_u ad v))
def pm_al (ad : Nat → Nat) : Nat → List (Option Value) → List (Nat × Value)
  | _, [] => []
  | k, none :: t => pm_al ad (k + 1) t
  | k, some v :: t => (k, pm_u ad v) :: pm_al ad (k + 1) t
theorem pm_al_mem (ad : Nat → Nat) : ∀ (L : List (Option Value)) (k : Nat) (q : Nat × Value), q ∈ pm_al ad k L ↔ ∃ (i : Nat) (v : Value), L[i]? = some (some v) ∧ q = (k + i, pm_u ad v) := by
  intro L
  induction L with
  | nil => intro k q; simp [pm_al]
  | cons o t ih =>
    intro k q
    cases o with
    | none =>
      rw [pm_al, ih]
      constructor
      · rintro ⟨i, v, h, rfl⟩
        exact ⟨i + 1, v, by rw [List.getElem?_cons_succ]; exact h, by rw [show k + 1 + i = k + (i + 1) by omega]⟩
      · rintro ⟨i, v, h, rfl⟩
        cases i with
        | zero => simp at h
        | succ i => exact ⟨i, v, by rw [List.getElem?_cons_succ] at h; exact h, by rw [show k + 1 + i = k + (i + 1) by omega]⟩
    | some w =>
      rw [pm_al, List.mem_cons, ih]
      constructor
      · rintro (rfl | ⟨i, v, h, rfl⟩)
        · exact ⟨0, w, rfl, rfl⟩
        · exact ⟨i + 1, v, by rw [List.getElem?_cons_succ]; exact h, by rw [show k + 1 + i = k + (i + 1) by omega]⟩
      · rintro ⟨i, v, h, rfl⟩
        cases i with
        | zero =>
          left
          have e : w = v := by simpa using h
          rw [e]
          rfl
        | succ i => exact Or.inr ⟨i, v, by rw [List.getElem?_cons_succ] at h; exact h, by rw [show k + 1 + i = k + (i + 1) by omega]⟩
theorem pm_lr.has {ad : Nat → Nat} {ls : Array Slot} {nL : Nat} {L : List (Option Value)} (h : pm_lr ad ls nL L) : lv_has ls nL (pm_al ad 0 L) := by
  refine ⟨h.1, h.2.2.1, fun q hq => ?_⟩
  obtain ⟨i, v, h1, rfl⟩ := (pm_al_mem ad L 0 q).mp hq
  have h2 := h.2.2.2 i v h1
  rw [show 0 + i = i by omega]
  exact h2
theorem pm_set_len (L : List (Option Value)) (i : Nat) (v : Value) : (pm_set L i v).length = L.length := by
  unfold pm_set
  split
  · simp
  · split <;> simp
/-- what a written variable and its neighbours hold -/
theorem pm_set_at {L : List (Option Value)} {i j : Nat} {v w : Value} (h : (pm_set L i v)[j]? = some (some w)) : (j = i ∧ w = v) ∨ (j ≠ i ∧ L[j]? = some (some w) ∧ ¬ (j + 1 = i ∧ w.category = 2)) := by
  by_cases hj : j = i
  · subst hj
    left
    refine ⟨rfl, ?_⟩
    unfold pm_set at h
    split at h
    · rw [List.getElem?_set] at h
      simp at h
      exact h.2.symm
    · next k =>
      split at h
      · rw [List.getElem?_set_ne (by omega), List.getElem?_set] at h
        simp at h
        exact h.2.symm
      · rw [List.getElem?_set_ne (by omega), List.getElem?_set] at h
        simp at h
        exact h.2.symm
      · rw [List.getElem?_set] at h
        simp at h
        exact h.2.symm
  · right
    unfold pm_set at h
    split at h
    · rw [List.getElem?_set_ne (fun e => hj e.symm)] at h
      exact ⟨hj, h, fun q => by omega⟩
    · next k =>
      split at h
      · next x hx =>
        by_cases hk : j = k
        · subst hk
          rw [List.getElem?_set] at h
          simp at h
        · rw [List.getElem?_set_ne (fun e => hk e.symm), List.getElem?_set_ne (fun e => hj e.symm)] at h
          exact ⟨hj, h, fun q => hk (by omega)⟩
      · next x hx =>
        by_cases hk : j = k
        · subst hk
          rw [List.getElem?_set] at h
          simp at h
        · rw [List.getElem?_set_ne (fun e => hk e.symm), List.getElem?_set_ne (fun e => hj e.symm)] at h
          exact ⟨hj, h, fun q => hk (by omega)⟩
      · next h1 h2 =>
        rw [List.getElem?_set_ne (fun e => hj e.symm)] at h
        refine ⟨hj, h, fun q => ?_⟩
        have e : j = k := by omega
        subst e
        cases w with
        | long x => exact h1 x h
        | double x => exact h2 x h
        | _ => exact absurd q.2 (by simp [Value.category])
theorem pm_lr.set1 {ad : Nat → Nat} {ls ls' : Array Slot} {nL i : Nat} {L : List (Option Value)} {v : Value} (h : pm_lr ad ls nL L) (h' : lv_has ls' nL ((i, pm_u ad v) :: (pm_al ad 0 L).filter (fun q => !(q.1 == i) && !(q.1 + 1 == i && q.2.category == 2)))) : pm_lr ad ls' nL (pm_set L i v) := by
  refine ⟨h'.1, by rw [pm_set_len]; exact h.2.1, h'.2.1, fun j w hj => ?_⟩
  rcases pm_set_at hj with ⟨rfl, rfl⟩ | ⟨h1, h2, h3⟩
  · exact h'.2.2 _ List.mem_cons_self
  · refine h'.2.2 (j, pm_u ad w) (List.mem_cons_of_mem _ (List.mem_filter.mpr ⟨(pm_al_mem ad L 0 _).mpr ⟨j, w, h2, by rw [show 0 + j = j by omega]⟩, ?_⟩))
    rw [pm_u_cat]
    by_cases a : j + 1 = i
    · have b : ¬ w.category = 2 := fun z => h3 ⟨a, z⟩
      simp [h1, a, b]
    · simp [h1, a]
theorem pm_lr.set2 {ad : Nat → Nat} {ls ls' : Array Slot} {nL i : Nat} {L : List (Option Value)} {v : Value} (h : pm_lr ad ls nL L) (h' : lv_has ls' nL ((i, pm_u ad v) :: (pm_al ad 0 L).filter (fun q => !(q.1 == i) && (!(q.1 == i + 1) && !(q.1 + 1 == i && q.2.category == 2))))) : pm_lr ad ls' nL ((pm_set L i v).set (i + 1) none) := by
  refine ⟨h'.1, by rw [List.length_set, pm_set_len]; exact h.2.1, h'.2.1, fun j w hj => ?_⟩
  by_cases hk : j = i + 1
  · subst hk
    rw [List.getElem?_set] at hj
    simp at hj
  · rw [List.getElem?_set_ne (fun e => hk e.symm)] at hj
    rcases pm_set_at hj with ⟨rfl, rfl⟩ | ⟨h1, h2, h3⟩
    · exact h'.2.2 _ List.mem_cons_self
    · refine h'.2.2 (j, pm_u ad w) (List.mem_cons_of_mem _ (List.mem_filter.mpr ⟨(pm_al_mem ad L 0 _).mpr ⟨j, w, h2, by rw [show 0 + j = j by omega]⟩, ?_⟩))
      rw [pm_u_cat]
      by_cases a : j + 1 = i
      · have b : ¬ w.category = 2 := fun z => h3 ⟨a, z⟩
        simp [h1, a, b, hk]
      · simp [h1, a, hk]
/-- an instruction's length; a switch has it as its aux -/
def pm_len (ins : Instr) (aux : Nat) : Nat := match ins with
  | .bipush _ => 2
  | .sipush _ => 3
  | .ldc _ => 2
  | .ldc_w _ => 3
  | .ldc2_w _ => 3
  | .getstatic _ => 3
  | .iload _ => 2
  | .lload _ => 2
  | .aload _ => 2
  | .istore _ => 2
  | .lstore _ => 2
  | .astore _ => 2
  | .iinc _ _ => 3
  | .ifCond _ _ => 3
  | .if_icmp _ _ => 3
  | .goto _ => 3
  | .tableswitch _ _ _ _ => aux
  | .lookupswitch _ _ => aux
  | .getfield _ => 3
  | .putfield _ => 3
  | .new _ => 3
  | .newarray _ => 2
  | .anewarray _ => 3
  | .invokespecial _ => 3
  | .invokestatic _ => 3
  | .invokevirtual _ => 3
  | _ => 1
/-- a branch's target -/
def pm_tok (ins : Instr) (pc aux : Nat) : Prop := match ins with
  | .ifCond _ o => (pc : Int) + o = (aux : Int)
  | .if_icmp _ o => (pc : Int) + o = (aux : Int)
  | .goto o => (pc : Int) + o = (aux : Int)
  | _ => True
section PMG
variable {p : Program} {l : Launch} {e : Env} {R : Room} {s : State} {m : MethodId} {args : Array Value} {below : List Frame} {meth : Method} {c : Code} {H : Heap} {locs : List Loc} {cells slots : Nat} {Q : State → Prop}
variable {cc : ByteArray} {pc aux : Nat} {ls : Array Slot} {ad : Nat → Nat} {ins : Instr} {st st' : List Value} {nL : Nat} {L L' : List (Option Value)}
theorem pm_beq1 {v : Value} (h : Nat.beq v.category 1 = true) : (pm_u ad v).category = 1 := by rw [pm_u_cat]; exact Nat.eq_of_beq_eq_true h
theorem pm_beq2 {v : Value} (h : Nat.beq v.category 2 = true) : (pm_u ad v).category = 2 := by rw [pm_u_cat]; exact Nat.eq_of_beq_eq_true h
theorem pm_bif {α : Type} {b : Bool} {x y : α} (h : (bif b then some x else none) = some y) : b = true ∧ x = y := by
  cases b with
  | true => exact ⟨rfl, Option.some.inj h⟩
  | false => cases h
theorem pm_bifn {α : Type} {b : Bool} {x y : α} (h : (bif b then none else some x) = some y) : b = false ∧ x = y := by
  cases b with
  | false => exact ⟨rfl, Option.some.inj h⟩
  | true => cases h
theorem pm_and {a b : Bool} (h : (a && b) = true) : a = true ∧ b = true := by
  cases a with
  | true => exact ⟨rfl, h⟩
  | false => cases h
set_option maxHeartbeats 4000000 in
theorem pm_alu_ok (hx : p.tables.exec = Jvm.exec) (hb : c.code = cc) (hd : decode cc pc = .ok (ins, pm_len ins aux)) (h : pm_alu ins st = some st')
    (k : W p l e R s m args below meth c H locs cells slots Q (F0 m (pc + 1) ls (st'.map (pm_u ad)))) : W p l e R s m args below meth c H locs cells slots Q (F0 m pc ls (st.map (pm_u ad))) := by
  unfold pm_alu at h
  split at h
  · cases h; exact lv_iconst hx hb hd rfl k
  · cases h; exact lv_lconst hx hb hd rfl k
  · cases h; exact lv_null hx hb hd k
  · cases h; exact lv_iadd hx hb hd k
  · cases h; exact lv_isub hx hb hd k
  · cases h; exact lv_imul hx hb hd k
  · cases h; exact lv_iand hx hb hd k
  · cases h; exact lv_ior hx hb hd k
  · cases h; exact lv_ixor hx hb hd k
  · obtain ⟨h1, rfl⟩ := pm_bifn h; exact lv_idiv hx hb hd (of_decide_eq_false h1) k
  · obtain ⟨h1, rfl⟩ := pm_bifn h; exact lv_irem hx hb hd (of_decide_eq_false h1) k
  · cases h; exact lv_ineg hx hb hd k
  · cases h; exact lv_ishl hx hb hd k
  · cases h; exact lv_ishr hx hb hd k
  · cases h; exact lv_iushr hx hb hd rfl k
  · cases h; exact lv_ladd hx hb hd k
  · cases h; exact lv_lsub hx hb hd k
  · cases h; exact lv_lmul hx hb hd k
  · cases h; exact lv_land hx hb hd k
  · cases h; exact lv_lor hx hb hd k
  · cases h; exact lv_lxor hx hb hd k
  · obtain ⟨h1, rfl⟩ := pm_bifn h; exact lv_ldiv hx hb hd (of_decide_eq_false h1) k
  · obtain ⟨h1, rfl⟩ := pm_bifn h; exact lv_lrem hx hb hd (of_decide_eq_false h1) k
  · cases h; exact lv_lneg hx hb hd k
  · cases h; exact lv_lshl hx hb hd rfl k
  · cases h; exact lv_lshr hx hb hd rfl k
  · cases h; exact lv_lushr hx hb hd rfl k
  · cases h; exact W.lcmp hx hb hd k
  · cases h; exact lv_i2l hx hb hd rfl k
  · cases h; exact lv_l2i hx hb hd rfl k
  · cases h; exact lv_i2b hx hb hd rfl k
  · cases h; exact lv_i2s hx hb hd rfl k
  · cases h; exact lv_i2c hx hb hd rfl k
  · obtain ⟨h1, rfl⟩ := pm_bif h; exact lv_dup hx hb hd (pm_beq1 h1) k
  · obtain ⟨h1, rfl⟩ := pm_bif h; exact lv_pop hx hb hd (pm_beq1 h1) k
  · obtain ⟨h1, rfl⟩ := pm_bif h; exact lv_dup_x1 hx hb hd (pm_beq1 (pm_and h1).1) (pm_beq1 (pm_and h1).2) k
  · obtain ⟨h1, rfl⟩ := pm_bif h; exact lv_dup_x2 hx hb hd (pm_beq1 (pm_and h1).1) (pm_beq1 (pm_and (pm_and h1).2).1) (pm_beq1 (pm_and (pm_and h1).2).2) k
  · next v r =>
    cases hv : Nat.beq v.category 2 with
    | true => rw [hv] at h; cases h; exact lv_dup2_2 hx hb hd (pm_beq2 hv) k
    | false =>
      rw [hv] at h
      cases r with
      | nil => cases h
      | cons w q => obtain ⟨h1, rfl⟩ := pm_bif h; exact lv_dup2_11 hx hb hd (pm_beq1 (pm_and h1).1) (pm_beq1 (pm_and h1).2) k
  · obtain ⟨h1, rfl⟩ := pm_bif h; exact lv_pop2_2 hx hb hd (pm_beq2 h1) k
  · cases h
theorem pm_load_ok {v : Value} {n : Nat} (hx : p.tables.exec = Jvm.exec) (hb : c.code = cc) (hd : decode cc pc = .ok (ins, pm_len ins aux)) (hl : pm_lr ad ls nL L) (h : pm_load ins L = some (v, n))
    (k : W p l e R s m args below meth c H locs cells slots Q (F0 m (pc + n) ls ((v :: st).map (pm_u ad)))) : W p l e R s m args below meth c H locs cells slots Q (F0 m pc ls (st.map (pm_u ad))) := by
  unfold pm_load at h
  split at h
  · split at h
    · next x hi => cases h; exact lv_iload_n hx hb hd rfl (hl.2.2.2 _ _ hi) k
    · cases h
  · split at h
    · next x hi => cases h; exact lv_iload hx hb hd (hl.2.2.2 _ _ hi) k
    · cases h
  · split at h
    · next x hi => cases h; exact lv_lload_n hx hb hd rfl (hl.2.2.2 _ _ hi) k
    · cases h
  · split at h
    · next x hi => cases h; exact lv_lload hx hb hd (hl.2.2.2 _ _ hi) k
    · cases h
  · split at h
    · next x hi => cases h; exact lv_aload_n hx hb hd rfl (hl.2.2.2 _ _ hi) k
    · next hi => cases h; exact lv_aload_nN hx hb hd rfl (hl.2.2.2 _ _ hi) k
    · cases h
  · split at h
    · next x hi => cases h; exact lv_aload hx hb hd (hl.2.2.2 _ _ hi) k
    · next hi => cases h; exact lv_aloadN hx hb hd (hl.2.2.2 _ _ hi) k
    · cases h
  · cases h
theorem pm_store_ok {n : Nat} (hx : p.tables.exec = Jvm.exec) (hb : c.code = cc) (hd : decode cc pc = .ok (ins, pm_len ins aux)) (hl : pm_lr ad ls nL L) (h : pm_store ins L st = some (L', st', n))
    (k : ∀ ls' : Array Slot, pm_lr ad ls' nL L' → W p l e R s m args below meth c H locs cells slots Q (F0 m (pc + n) ls' (st'.map (pm_u ad)))) : W p l e R s m args below meth c H locs cells slots Q (F0 m pc ls (st.map (pm_u ad))) := by
  have lt : ∀ {i : Nat}, Nat.blt i L.length = true → i < nL := fun {i} q => by rw [← hl.2.1]; exact Nat.le_of_ble_eq_true q
  unfold pm_store at h
  split at h
  · next k0 x r =>
    obtain ⟨h1, h2⟩ := pm_bif h
    cases h2
    exact lv_istore_n hx hb hd rfl hl.has (lt h1) rfl (fun ls' h' => k ls' (hl.set1 (v := .int x) h'))
  · next i x r =>
    obtain ⟨h1, h2⟩ := pm_bif h
    cases h2
    exact lv_istore hx hb hd hl.has (lt h1) rfl (fun ls' h' => k ls' (hl.set1 (v := .int x) h'))
  · next k0 x r =>
    obtain ⟨h1, h2⟩ := pm_bif h
    cases h2
    exact lv_lstore_n hx hb hd rfl hl.has (lt h1) rfl (fun ls' h' => k ls' (hl.set2 (v := .long x) h'))
  · next i x r =>
    obtain ⟨h1, h2⟩ := pm_bif h
    cases h2
    exact lv_lstore hx hb hd hl.has (lt h1) rfl (fun ls' h' => k ls' (hl.set2 (v := .long x) h'))
  · next k0 x r =>
    obtain ⟨h1, h2⟩ := pm_bif h
    cases h2
    exact lv_astore_n hx hb hd rfl hl.has (lt h1) rfl (fun ls' h' => k ls' (hl.set1 (v := .ref x) h'))
  · next i x r =>
    obtain ⟨h1, h2⟩ := pm_bif h
    cases h2
    exact lv_astore hx hb hd hl.has (lt h1) rfl (fun ls' h' => k ls' (hl.set1 (v := .ref x) h'))
  · next r i d =>
    split at h
    · next x hi =>
      obtain ⟨h1, h2⟩ := pm_bif h
      cases h2
      obtain ⟨k9, hk9⟩ := List.getElem?_of_mem ((pm_al_mem ad L 0 (i, .int x)).mpr ⟨i, .int x, hi, by rw [show 0 + i = i by omega]; rfl⟩)
      exact lv_iinc hx hb hd hl.has hk9 rfl (lt h1) rfl (fun ls' h' => k ls' (hl.set1 (v := .int (x + Int32.ofInt d)) h'))
    · cases h
  · cases h
theorem pm_tgt_ok {o : Int} {t : Nat} (h : pm_tgt pc o = some t) : (pc : Int) + o = (t : Int) := by
  unfold pm_tgt at h
  split at h
  · next t' ht => cases h; exact ht
  · cases h
theorem pm_dt {P : Prop} {_ : Decidable P} {x y t : Nat} (h : (bif decide P then x else y) = t) (q : P) : x = t := by
  rw [show decide P = true from decide_eq_true q] at h
  exact h
theorem pm_df {P : Prop} {_ : Decidable P} {x y t : Nat} (h : (bif decide P then x else y) = t) (q : ¬ P) : y = t := by
  rw [show decide P = false from decide_eq_false q] at h
  exact h
theorem pm_pair {α β : Type} {a a' : α} {b b' : β} (h : some (a, b) = some (a', b')) : a = a' ∧ b = b' := by
  cases h
  exact ⟨rfl, rfl⟩
set_option maxHeartbeats 4000000 in
theorem pm_br_ok {pc' : Nat} (hx : p.tables.exec = Jvm.exec) (hb : c.code = cc) (hd : decode cc pc = .ok (ins, pm_len ins aux)) (ht : pm_tok ins pc aux) (h : pm_br ins aux pc st = some (pc', st'))
    (k : W p l e R s m args below meth c H locs cells slots Q (F0 m pc' ls (st'.map (pm_u ad)))) : W p l e R s m args below meth c H locs cells slots Q (F0 m pc ls (st.map (pm_u ad))) := by
  unfold pm_br at h
  split at h
  · obtain ⟨h1, rfl⟩ := pm_pair h; exact lv_if_eq hx hb hd ht (fun q => by rw [pm_dt h1 q]; exact k) (fun q => by rw [pm_df h1 q]; exact k)
  · obtain ⟨h1, rfl⟩ := pm_pair h; exact lv_if_ne hx hb hd ht (fun q => by rw [pm_df h1 q]; exact k) (fun q => by rw [pm_dt h1 q]; exact k)
  · obtain ⟨h1, rfl⟩ := pm_pair h; exact lv_if_lt hx hb hd ht (fun q => by rw [pm_dt h1 q]; exact k) (fun q => by rw [pm_df h1 q]; exact k)
  · obtain ⟨h1, rfl⟩ := pm_pair h; exact lv_if_ge hx hb hd ht (fun q => by rw [pm_dt h1 q]; exact k) (fun q => by rw [pm_df h1 q]; exact k)
  · obtain ⟨h1, rfl⟩ := pm_pair h; exact lv_if_gt hx hb hd ht (fun q => by rw [pm_dt h1 q]; exact k) (fun q => by rw [pm_df h1 q]; exact k)
  · obtain ⟨h1, rfl⟩ := pm_pair h; exact lv_if_le hx hb hd ht (fun q => by rw [pm_dt h1 q]; exact k) (fun q => by rw [pm_df h1 q]; exact k)
  · obtain ⟨h1, rfl⟩ := pm_pair h; exact lv_icmp_eq hx hb hd ht (fun q => by rw [pm_dt h1 q]; exact k) (fun q => by rw [pm_df h1 q]; exact k)
  · obtain ⟨h1, rfl⟩ := pm_pair h; exact lv_icmp_ne hx hb hd ht (fun q => by rw [pm_df h1 q]; exact k) (fun q => by rw [pm_dt h1 q]; exact k)
  · obtain ⟨h1, rfl⟩ := pm_pair h; exact lv_icmp_lt hx hb hd ht (fun q => by rw [pm_dt h1 q]; exact k) (fun q => by rw [pm_df h1 q]; exact k)
  · obtain ⟨h1, rfl⟩ := pm_pair h; exact lv_icmp_ge hx hb hd ht (fun q => by rw [pm_dt h1 q]; exact k) (fun q => by rw [pm_df h1 q]; exact k)
  · obtain ⟨h1, rfl⟩ := pm_pair h; exact lv_icmp_gt hx hb hd ht (fun q => by rw [pm_dt h1 q]; exact k) (fun q => by rw [pm_df h1 q]; exact k)
  · obtain ⟨h1, rfl⟩ := pm_pair h; exact lv_icmp_le hx hb hd ht (fun q => by rw [pm_dt h1 q]; exact k) (fun q => by rw [pm_df h1 q]; exact k)
  · obtain ⟨rfl, rfl⟩ := pm_pair h; exact lv_goto hx hb hd ht k
  · next d lo hi offs x r =>
    cases hc : (decide (x.toInt < lo) || decide (hi < x.toInt)) with
    | true =>
      rw [hc] at h
      have hor : x.toInt < lo ∨ hi < x.toInt := by
        rcases (Bool.or_eq_true _ _).mp hc with q | q
        · exact Or.inl (of_decide_eq_true q)
        · exact Or.inr (of_decide_eq_true q)
      simp only [cond_true] at h
      split at h
      · next t ht2 =>
        obtain ⟨rfl, rfl⟩ := pm_pair h
        exact lv_tableOut hx hb hd hor (pm_tgt_ok ht2) k
      · cases h
    | false =>
      rw [hc] at h
      have hn := (Bool.or_eq_false_iff.mp hc)
      simp only [cond_false] at h
      split at h
      · next o ho =>
        split at h
        · next t ht2 =>
          obtain ⟨rfl, rfl⟩ := pm_pair h
          exact lv_tableIn hx hb hd (of_decide_eq_false hn.1) (of_decide_eq_false hn.2) ho (pm_tgt_ok ht2) k
        · cases h
      · cases h
  · next d ps x r =>
    cases hc : (ps.toList.zip (ps.toList.drop 1)).all (fun (a, next) => a.1 < next.1) with
    | true =>
      rw [hc] at h
      simp only [cond_true] at h
      split at h
      · next t ht2 =>
        obtain ⟨rfl, rfl⟩ := pm_pair h
        exact lv_lookup hx hb hd hc rfl (pm_tgt_ok ht2) k
      · cases h
    | false =>
      rw [hc] at h
      cases h
  · cases h
end PMG
