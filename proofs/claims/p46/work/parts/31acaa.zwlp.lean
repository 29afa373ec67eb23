/-! W: what a run's end must be, going backwards; nothing is asked of whether there is an end -/
def zc (ph : pm_H) (a k : Nat) : Option Value := match pm_at ph a with
  | some (.inr (_, fl)) => fl[k]?
  | some (.inl (_, .inl l)) => (l[k]?).map .int
  | some (.inl (_, .inr (.inl l))) => (l[k]?).map .long
  | some (.inl (_, .inr (.inr l))) => (l[k]?).map pm_rv
  | none => none
def zln (ph : pm_H) (a : Nat) : Option Nat := match pm_at ph a with
  | some (.inl (_, .inl l)) => some l.length
  | some (.inl (_, .inr (.inl l))) => some l.length
  | some (.inl (_, .inr (.inr l))) => some l.length
  | _ => none
def zst (ph ph' : pm_H) (a k : Nat) (v : Value) : Prop := zc ph' a k = some v ∧ (∀ b c, ¬ (b = a ∧ c = k) → zc ph' b c = zc ph b c) ∧ ∀ b, zln ph' b = zln ph b
def zW (n D j : Nat) (Q : Option Value → pm_H → Prop) (pc : Nat) (L : List (Option Value)) (st : List Value) (ph : pm_H) : Prop := ∀ k, k ≤ n → ∀ cs ss r, pm_Tn kK false (pm_Rd kK false D) j k (pc, L, st, ph, cs, ss) r → Q r.1 r.2.1
def zM (j : Nat) (as : List Value) (ph : pm_H) (P : Option Value → pm_H → Prop) : Prop := ∀ D r, pm_Rd kK false D j as ph r → P r.1 r.2.1
theorem zbif {α : Type} {b : Bool} {x y : α} (h : (bif b then some x else none) = some y) : x = y := by
  cases b with
  | false => cases h
  | true => exact Option.some.inj h
theorem ztl {x : Int32} : x.toInt64.toInt = x.toInt := Int32.toInt_toInt64 x
theorem zst_set {ph : pm_H} {a k : Nat} {c c0 : pm_C} {v : Value} (h : pm_at ph a = some c0) (h1 : zc (ph.set a c) a k = some v) (h2 : ∀ i, i ≠ k → zc (ph.set a c) a i = zc ph a i) (h3 : zln (ph.set a c) a = zln ph a) : zst ph (ph.set a c) a k v := by
  refine ⟨h1, fun b i hn => ?_, fun b => ?_⟩
  · by_cases e : b = a
    · subst e
      exact h2 i (fun q => hn ⟨rfl, q⟩)
    · unfold zc; rw [xat_ne e]
  · by_cases e : b = a
    · subst e; exact h3
    · unfold zln; rw [xat_ne e]
section ZW
variable {n D j pc pc' aux na : Nat} {Q : Option Value → pm_H → Prop} {ins : Instr} {L L' : List (Option Value)} {st st' r as : List Value} {ph : pm_H} {v0 : Value} {o : Int} {A k fi ci : Nat}
theorem zW_le {n' : Nat} (h : zW n D j Q pc L st ph) (hn : n' ≤ n) : zW n' D j Q pc L st ph := fun k hk => h k (Nat.le_trans hk hn)
theorem zM_mk {P : Option Value → pm_H → Prop} (h : ∀ n D, zW n D j P 0 (pm_sl as ++ List.replicate ((pm_sig kK j).2.1 - (pm_sl as).length) none) [] ph) : zM j as ph P := fun D r hr => by
  cases D with
  | zero => exact hr.elim
  | succ D =>
    obtain ⟨-, n, hn⟩ := hr
    exact h n D n (Nat.le_refl n) 0 0 r hn
theorem zM_imp {P P' : Option Value → pm_H → Prop} (h : zM j as ph P) (hi : ∀ v ph', P v ph' → P' v ph') : zM j as ph P' := fun D r hr => hi _ _ (h D r hr)
theorem w_sb {ph' : pm_H} (h : ∀ cs ss, ∃ c1 s1, pm_step kK false j (pc, L, st, ph, cs, ss) = some (.inl (pc', L', st', ph', c1, s1))) (kk : ∀ k, k < n → zW k D j Q pc' L' st' ph') : zW n D j Q pc L st ph := fun k hk cs ss r hr => by
  cases k with
  | zero => exact hr.elim
  | succ k =>
    obtain ⟨c1, s1, e⟩ := h cs ss
    rw [pm_Tn, e] at hr
    exact kk k (by omega) k (Nat.le_refl k) c1 s1 r hr
theorem w_s {ph' : pm_H} (h : ∀ cs ss, ∃ c1 s1, pm_step kK false j (pc, L, st, ph, cs, ss) = some (.inl (pc', L', st', ph', c1, s1))) (kk : zW n D j Q pc' L' st' ph') : zW n D j Q pc L st ph := w_sb h (fun k hk => zW_le kk (Nat.le_of_lt hk))
theorem w_no (h : ∀ cs ss, pm_step kK false j (pc, L, st, ph, cs, ss) = none) : zW n D j Q pc L st ph := fun k hk cs ss r hr => by
  cases k with
  | zero => exact hr.elim
  | succ k =>
    rw [pm_Tn, h cs ss] at hr
    exact hr.elim
theorem w_alu (hc : pm_code kK j pc = some (0, ins, aux)) (h : pm_alu ins st = some st') (hp : pc + 1 = pc') (kk : zW n D j Q pc' L st' ph) : zW n D j Q pc L st ph := by
  subst hp
  exact w_s (fun cs ss => ⟨cs, ss, xs0 hc h⟩) kk
theorem w_alun (hc : pm_code kK j pc = some (0, ins, aux)) (h : pm_alu ins st = none) : zW n D j Q pc L st ph := w_no fun cs ss => by
  unfold pm_step
  simp only [hc, h]
theorem w_idiv {x y : Int32} (hc : pm_code kK j pc = some (0, .idiv, aux)) (hp : pc + 1 = pc') (kk : y.toInt ≠ 0 → zW n D j Q pc' L (.int (x / y) :: st) ph) : zW n D j Q pc L (.int y :: .int x :: st) ph := by
  by_cases h : y.toInt = 0
  · refine w_alun hc ?_
    have e : y = 0 := Int32.toInt_inj.mp h
    subst e
    rfl
  · exact w_alu hc (xv_idiv x y _ h) hp (kk h)
theorem w_irem {x y : Int32} (hc : pm_code kK j pc = some (0, .irem, aux)) (hp : pc + 1 = pc') (kk : y.toInt ≠ 0 → zW n D j Q pc' L (.int (x - x / y * y) :: st) ph) : zW n D j Q pc L (.int y :: .int x :: st) ph := by
  by_cases h : y.toInt = 0
  · refine w_alun hc ?_
    have e : y = 0 := Int32.toInt_inj.mp h
    subst e
    rfl
  · exact w_alu hc (xv_irem x y _ h) hp (kk h)
theorem w_push {v : Value} {m : Nat} (hc : pm_code kK j pc = some (1, ins, aux)) (h : pm_push kK (pm_own kK j) ins = some (v, m)) (hp : pc + m = pc') (kk : zW n D j Q pc' L (v :: st) ph) : zW n D j Q pc L st ph := by
  subst hp
  exact w_s (fun cs ss => ⟨cs, ss, xs1 hc h⟩) kk
theorem w_load {v : Value} {m : Nat} (hc : pm_code kK j pc = some (2, ins, aux)) (h : pm_load ins L = some (v, m)) (hp : pc + m = pc') (kk : zW n D j Q pc' L (v :: st) ph) : zW n D j Q pc L st ph := by
  subst hp
  exact w_s (fun cs ss => ⟨cs, ss, xs2 hc h⟩) kk
theorem w_store {m : Nat} (hc : pm_code kK j pc = some (3, ins, aux)) (h : pm_store ins L st = some (L', st', m)) (hp : pc + m = pc') (kk : zW n D j Q pc' L' st' ph) : zW n D j Q pc L st ph := by
  subst hp
  exact w_s (fun cs ss => ⟨cs, ss, xs3 hc h⟩) kk
theorem w_br (hc : pm_code kK j pc = some (4, ins, aux)) (h : pm_br ins aux pc st = some (pc', st')) (kk : zW n D j Q pc' L st' ph) : zW n D j Q pc L st ph := w_s (fun cs ss => ⟨cs, ss, xs4 hc h⟩) kk
/-- back to a head: there is less left -/
theorem w_gb (hc : pm_code kK j pc = some (4, .goto o, aux)) (kk : ∀ k, k < n → zW k D j Q aux L st ph) : zW n D j Q pc L st ph := w_sb (fun cs ss => ⟨cs, ss, xs4 hc rfl⟩) kk
section BR
variable {x y : Int32}
theorem w_ilt (hc : pm_code kK j pc = some (4, .if_icmp .lt o, aux)) (hp : pc + 3 = pc') (kt : x.toInt < y.toInt → zW n D j Q aux L st ph) (kf : y.toInt ≤ x.toInt → zW n D j Q pc' L st ph) : zW n D j Q pc L (.int y :: .int x :: st) ph := by
  subst hp
  by_cases h : x.toInt < y.toInt
  · exact w_br hc (by show some (bif decide (x < y) then aux else pc + 3, st) = _; rw [decide_eq_true (x32lt.mpr h)]; rfl) (kt h)
  · exact w_br hc (by show some (bif decide (x < y) then aux else pc + 3, st) = _; rw [decide_eq_false (fun q => h (x32lt.mp q))]; rfl) (kf (by omega))
theorem w_ige (hc : pm_code kK j pc = some (4, .if_icmp .ge o, aux)) (hp : pc + 3 = pc') (kt : y.toInt ≤ x.toInt → zW n D j Q aux L st ph) (kf : x.toInt < y.toInt → zW n D j Q pc' L st ph) : zW n D j Q pc L (.int y :: .int x :: st) ph := by
  subst hp
  by_cases h : y.toInt ≤ x.toInt
  · exact w_br hc (by show some (bif decide (y ≤ x) then aux else pc + 3, st) = _; rw [decide_eq_true (x32le.mpr h)]; rfl) (kt h)
  · exact w_br hc (by show some (bif decide (y ≤ x) then aux else pc + 3, st) = _; rw [decide_eq_false (fun q => h (x32le.mp q))]; rfl) (kf (by omega))
theorem w_igt (hc : pm_code kK j pc = some (4, .if_icmp .gt o, aux)) (hp : pc + 3 = pc') (kt : y.toInt < x.toInt → zW n D j Q aux L st ph) (kf : x.toInt ≤ y.toInt → zW n D j Q pc' L st ph) : zW n D j Q pc L (.int y :: .int x :: st) ph := by
  subst hp
  by_cases h : y.toInt < x.toInt
  · exact w_br hc (by show some (bif decide (y < x) then aux else pc + 3, st) = _; rw [decide_eq_true (x32lt.mpr h)]; rfl) (kt h)
  · exact w_br hc (by show some (bif decide (y < x) then aux else pc + 3, st) = _; rw [decide_eq_false (fun q => h (x32lt.mp q))]; rfl) (kf (by omega))
theorem w_ile (hc : pm_code kK j pc = some (4, .if_icmp .le o, aux)) (hp : pc + 3 = pc') (kt : x.toInt ≤ y.toInt → zW n D j Q aux L st ph) (kf : y.toInt < x.toInt → zW n D j Q pc' L st ph) : zW n D j Q pc L (.int y :: .int x :: st) ph := by
  subst hp
  by_cases h : x.toInt ≤ y.toInt
  · exact w_br hc (by show some (bif decide (x ≤ y) then aux else pc + 3, st) = _; rw [decide_eq_true (x32le.mpr h)]; rfl) (kt h)
  · exact w_br hc (by show some (bif decide (x ≤ y) then aux else pc + 3, st) = _; rw [decide_eq_false (fun q => h (x32le.mp q))]; rfl) (kf (by omega))
theorem w_ieq (hc : pm_code kK j pc = some (4, .if_icmp .eq o, aux)) (hp : pc + 3 = pc') (kt : x.toInt = y.toInt → zW n D j Q aux L st ph) (kf : x.toInt ≠ y.toInt → zW n D j Q pc' L st ph) : zW n D j Q pc L (.int y :: .int x :: st) ph := by
  subst hp
  by_cases h : x.toInt = y.toInt
  · exact w_br hc (by show some (bif decide (x = y) then aux else pc + 3, st) = _; rw [decide_eq_true (Int32.toInt_inj.mp h)]; rfl) (kt h)
  · exact w_br hc (by show some (bif decide (x = y) then aux else pc + 3, st) = _; rw [decide_eq_false (fun q => h (by rw [q]))]; rfl) (kf h)
theorem w_ine (hc : pm_code kK j pc = some (4, .if_icmp .ne o, aux)) (hp : pc + 3 = pc') (kt : x.toInt ≠ y.toInt → zW n D j Q aux L st ph) (kf : x.toInt = y.toInt → zW n D j Q pc' L st ph) : zW n D j Q pc L (.int y :: .int x :: st) ph := by
  subst hp
  by_cases h : x.toInt = y.toInt
  · exact w_br hc (by show some (bif decide (x = y) then pc + 3 else aux, st) = _; rw [decide_eq_true (Int32.toInt_inj.mp h)]; rfl) (kf h)
  · exact w_br hc (by show some (bif decide (x = y) then pc + 3 else aux, st) = _; rw [decide_eq_false (fun q => h (by rw [q]))]; rfl) (kt h)
theorem w_zlt (hc : pm_code kK j pc = some (4, .ifCond .lt o, aux)) (hp : pc + 3 = pc') (kt : x.toInt < 0 → zW n D j Q aux L st ph) (kf : 0 ≤ x.toInt → zW n D j Q pc' L st ph) : zW n D j Q pc L (.int x :: st) ph := by
  subst hp
  by_cases h : x.toInt < 0
  · exact w_br hc (by show some (bif decide (x < 0) then aux else pc + 3, st) = _; rw [decide_eq_true (x32lt.mpr h)]; rfl) (kt h)
  · exact w_br hc (by show some (bif decide (x < 0) then aux else pc + 3, st) = _; rw [decide_eq_false (fun q => h (x32lt.mp q))]; rfl) (kf (by omega))
theorem w_zge (hc : pm_code kK j pc = some (4, .ifCond .ge o, aux)) (hp : pc + 3 = pc') (kt : 0 ≤ x.toInt → zW n D j Q aux L st ph) (kf : x.toInt < 0 → zW n D j Q pc' L st ph) : zW n D j Q pc L (.int x :: st) ph := by
  subst hp
  by_cases h : 0 ≤ x.toInt
  · exact w_br hc (by show some (bif decide (0 ≤ x) then aux else pc + 3, st) = _; rw [decide_eq_true (z0le.mpr h)]; rfl) (kt h)
  · exact w_br hc (by show some (bif decide (0 ≤ x) then aux else pc + 3, st) = _; rw [decide_eq_false (fun q => h (z0le.mp q))]; rfl) (kf (by omega))
theorem w_zgt (hc : pm_code kK j pc = some (4, .ifCond .gt o, aux)) (hp : pc + 3 = pc') (kt : 0 < x.toInt → zW n D j Q aux L st ph) (kf : x.toInt ≤ 0 → zW n D j Q pc' L st ph) : zW n D j Q pc L (.int x :: st) ph := by
  subst hp
  by_cases h : 0 < x.toInt
  · exact w_br hc (by show some (bif decide (0 < x) then aux else pc + 3, st) = _; rw [decide_eq_true (z0lt.mpr h)]; rfl) (kt h)
  · exact w_br hc (by show some (bif decide (0 < x) then aux else pc + 3, st) = _; rw [decide_eq_false (fun q => h (z0lt.mp q))]; rfl) (kf (by omega))
theorem w_zle (hc : pm_code kK j pc = some (4, .ifCond .le o, aux)) (hp : pc + 3 = pc') (kt : x.toInt ≤ 0 → zW n D j Q aux L st ph) (kf : 0 < x.toInt → zW n D j Q pc' L st ph) : zW n D j Q pc L (.int x :: st) ph := by
  subst hp
  by_cases h : x.toInt ≤ 0
  · exact w_br hc (by show some (bif decide (x ≤ 0) then aux else pc + 3, st) = _; rw [decide_eq_true (x32le.mpr (by have := x0i; omega))]; rfl) (kt h)
  · exact w_br hc (by show some (bif decide (x ≤ 0) then aux else pc + 3, st) = _; rw [decide_eq_false (fun q => h (by have := x32le.mp q; have := x0i; omega))]; rfl) (kf (by omega))
theorem w_zeq (hc : pm_code kK j pc = some (4, .ifCond .eq o, aux)) (hp : pc + 3 = pc') (kt : x.toInt = 0 → zW n D j Q aux L st ph) (kf : x.toInt ≠ 0 → zW n D j Q pc' L st ph) : zW n D j Q pc L (.int x :: st) ph := by
  subst hp
  by_cases h : x.toInt = 0
  · exact w_br hc (by show some (bif decide (x = 0) then aux else pc + 3, st) = _; rw [decide_eq_true (Int32.toInt_inj.mp h)]; rfl) (kt h)
  · exact w_br hc (by show some (bif decide (x = 0) then aux else pc + 3, st) = _; rw [decide_eq_false (fun q => h (by rw [q]; rfl))]; rfl) (kf h)
theorem w_zne (hc : pm_code kK j pc = some (4, .ifCond .ne o, aux)) (hp : pc + 3 = pc') (kt : x.toInt ≠ 0 → zW n D j Q aux L st ph) (kf : x.toInt = 0 → zW n D j Q pc' L st ph) : zW n D j Q pc L (.int x :: st) ph := by
  subst hp
  by_cases h : x.toInt = 0
  · exact w_br hc (by show some (bif decide (x = 0) then pc + 3 else aux, st) = _; rw [decide_eq_true (Int32.toInt_inj.mp h)]; rfl) (kf h)
  · exact w_br hc (by show some (bif decide (x = 0) then pc + 3 else aux, st) = _; rw [decide_eq_false (fun q => h (by rw [q]; rfl))]; rfl) (kt h)
end BR
/-- a truth as an int -/
def zI (b : Bool) : Int32 := bif b then 1 else 0
theorem zI_t {b : Bool} (h : (zI b).toInt ≠ 0) : b = true := by
  cases b
  · exact absurd rfl h
  · rfl
theorem zI_f {b : Bool} (h : (zI b).toInt = 0) : b = false := by
  cases b
  · rfl
  · exact absurd h (by decide)
theorem w_beq {b : Bool} (hc : pm_code kK j pc = some (4, .ifCond .eq o, aux)) (hp : pc + 3 = pc') (kt : b = false → zW n D j Q aux L st ph) (kf : b = true → zW n D j Q pc' L st ph) : zW n D j Q pc L (.int (zI b) :: st) ph := w_zeq hc hp (fun h => kt (zI_f h)) (fun h => kf (zI_t h))
theorem w_bne {b : Bool} (hc : pm_code kK j pc = some (4, .ifCond .ne o, aux)) (hp : pc + 3 = pc') (kt : b = true → zW n D j Q aux L st ph) (kf : b = false → zW n D j Q pc' L st ph) : zW n D j Q pc L (.int (zI b) :: st) ph := w_zne hc hp (fun h => kt (zI_t h)) (fun h => kf (zI_f h))
/-! the heap -/
theorem w_mem (hc : pm_code kK j pc = some (5, ins, aux)) (h : ∀ m' st' ph' c1 s1, pm_mem kK false (pm_own kK j) ins st ph = some (m', st', ph', c1, s1) → zW n D j Q (pc + m') L st' ph') : zW n D j Q pc L st ph := fun k hk cs ss r hr => by
  cases k with
  | zero => exact hr.elim
  | succ k =>
    rw [pm_Tn] at hr
    unfold pm_step at hr
    simp only [hc] at hr
    cases hm : pm_mem kK false (pm_own kK j) ins st ph with
    | none => simp only [hm] at hr
    | some q =>
      obtain ⟨m', st', ph', c1, s1⟩ := q
      simp only [hm] at hr
      exact h _ _ _ _ _ hm k (by omega) _ _ r hr
theorem w_mem1 {m : Nat} {ph' : pm_H} {c1 s1 : Nat} (hc : pm_code kK j pc = some (5, ins, aux)) (h : pm_mem kK false (pm_own kK j) ins st ph = some (m, st', ph', c1, s1)) (hp : pc + m = pc') (kk : zW n D j Q pc' L st' ph') : zW n D j Q pc L st ph := w_mem hc fun m' st2 ph2 c2 s2 hm => by
  rw [h] at hm
  cases hm
  subst hp
  exact kk
theorem w_gf {v : Value} (hc : pm_code kK j pc = some (5, .getfield fi, aux)) (hl : pm_lnk kK (pm_own kK j) fi = some (6, ci, k, v0)) (hg : zc ph A k = some v) (hp : pc + 3 = pc') (kk : zW n D j Q pc' L (v :: st) ph) : zW n D j Q pc L (.ref A :: st) ph := w_mem hc fun m' st2 ph2 c2 s2 hm => by
  subst hp
  unfold pm_mem at hm
  simp only [hl] at hm
  unfold zc at hg
  cases ha : pm_at ph A with
  | none => rw [ha] at hg; cases hg
  | some c =>
    simp only [ha] at hm hg
    cases c with
    | inl c => simp only at hm; cases hm
    | inr c =>
      obtain ⟨cj, fs⟩ := c
      simp only at hm hg
      cases hb : Nat.beq ci cj with
      | false => rw [hb] at hm; cases hm
      | true =>
        rw [hb] at hm
        simp only [cond_true, hg] at hm
        cases hm
        exact kk
theorem w_pf {v : Value} (hc : pm_code kK j pc = some (5, .putfield fi, aux)) (hl : pm_lnk kK (pm_own kK j) fi = some (6, ci, k, v0)) (hp : pc + 3 = pc') (kk : ∀ ph', zst ph ph' A k v → zW n D j Q pc' L st ph') : zW n D j Q pc L (v :: .ref A :: st) ph := w_mem hc fun m' st2 ph2 c2 s2 hm => by
  subst hp
  unfold pm_mem at hm
  simp only [hl] at hm
  cases ha : pm_at ph A with
  | none => simp only [ha] at hm; cases hm
  | some c =>
    simp only [ha] at hm
    cases c with
    | inl c => simp only at hm; cases hm
    | inr c =>
      obtain ⟨cj, fs⟩ := c
      simp only at hm
      cases hb : (Nat.beq ci cj && (pm_fit (pm_fty kK ci k) v && Nat.blt k fs.length)) with
      | false => rw [hb] at hm; cases hm
      | true =>
        have hlt : k < fs.length := by
          have h2 := (Bool.and_eq_true _ _ |>.mp ((Bool.and_eq_true _ _ |>.mp hb).2)).2
          exact Nat.le_of_ble_eq_true h2
        rw [hb] at hm
        simp only [cond_true] at hm
        cases hm
        refine kk _ (zst_set ha ?_ (fun i hi => ?_) ?_)
        · unfold zc
          rw [xat_self ha]
          exact List.getElem?_set_self hlt
        · unfold zc
          rw [xat_self ha, ha]
          exact List.getElem?_set_ne (Ne.symm hi)
        · unfold zln
          rw [xat_self ha, ha]
theorem zix {α : Type} {l : List α} {x : Int32} (hx : x.toInt = (k : Int)) : pm_ix l x = l[k]? := by
  rw [xix_eq (by omega)]
  rw [show x.toInt.toNat = k by omega]
theorem zupL {α : Type} {l l' : List α} {x : Int32} {y : α} (hx : x.toInt = (k : Int)) (h : pm_up l x y = some l') : k < l.length ∧ l' = l.set k y := by
  unfold pm_up at h
  rw [zix hx] at h
  have e : x.toNatClampNeg = k := by
    show x.toInt.toNat = k
    omega
  cases hq : l[k]? with
  | none => rw [hq] at h; cases h
  | some z =>
    rw [hq] at h
    simp only [e] at h
    cases h
    exact ⟨(List.getElem?_eq_some_iff.mp hq).1, rfl⟩
theorem w_ialk {x y : Int32} (hc : pm_code kK j pc = some (5, .iaload, aux)) (hg : zc ph A k = some (.int y)) (hx : x.toInt = (k : Int)) (hp : pc + 1 = pc') (kk : zW n D j Q pc' L (.int y :: st) ph) : zW n D j Q pc L (.int x :: .ref A :: st) ph := w_mem hc fun m' st2 ph2 c2 s2 hm => by
  subst hp
  unfold pm_mem at hm
  unfold zc at hg
  cases ha : pm_at ph A with
  | none => rw [ha] at hg; cases hg
  | some c =>
    simp only [ha] at hm hg
    match c, hm, hg with
    | .inl (0, .inl l), hm, hg =>
      simp only [zix hx] at hm
      simp only at hg
      cases hq : l[k]? with
      | none => rw [hq] at hg; cases hg
      | some z => rw [hq] at hg hm; cases hg; cases hm; exact kk
theorem w_ial {x : Int32} (hc : pm_code kK j pc = some (5, .iaload, aux)) (hA : Nat.blt A 1048576 = true) (hx : x.toInt = (k : Int)) (hp : pc + 1 = pc') (kk : ∀ y, zc ph A k = some (.int y) → zW n D j Q pc' L (.int y :: st) ph) : zW n D j Q pc L (.int x :: .ref A :: st) ph := w_mem hc fun m' st2 ph2 c2 s2 hm => by
  subst hp
  unfold pm_mem at hm
  cases ha : pm_at ph A with
  | none =>
    simp only [ha] at hm
    unfold pm_rat at hm
    rw [hA] at hm
    simp only [cond_true] at hm
    cases hm
  | some c =>
    simp only [ha] at hm
    match c, hm, ha with
    | .inl (0, .inl l), hm, ha =>
      simp only [zix hx] at hm
      cases hq : l[k]? with
      | none => rw [hq] at hm; cases hm
      | some z =>
        rw [hq] at hm
        cases hm
        exact kk z (by unfold zc; rw [ha]; show (l[k]?).map Value.int = _; rw [hq]; rfl)
theorem w_balk {x y : Int32} (hc : pm_code kK j pc = some (5, .baload, aux)) (hg : zc ph A k = some (.int y)) (hx : x.toInt = (k : Int)) (hp : pc + 1 = pc') (kk : zW n D j Q pc' L (.int y :: st) ph) : zW n D j Q pc L (.int x :: .ref A :: st) ph := w_mem hc fun m' st2 ph2 c2 s2 hm => by
  subst hp
  unfold pm_mem at hm
  unfold zc at hg
  cases ha : pm_at ph A with
  | none => rw [ha] at hg; cases hg
  | some c =>
    simp only [ha] at hm hg
    match c, hm, hg with
    | .inl (1, .inl l), hm, hg =>
      simp only [zix hx] at hm
      simp only at hg
      cases hq : l[k]? with
      | none => rw [hq] at hg; cases hg
      | some z => rw [hq] at hg hm; cases hg; cases hm; exact kk
theorem w_lalk {x : Int32} {y : Int64} (hc : pm_code kK j pc = some (5, .laload, aux)) (hg : zc ph A k = some (.long y)) (hx : x.toInt = (k : Int)) (hp : pc + 1 = pc') (kk : zW n D j Q pc' L (.long y :: st) ph) : zW n D j Q pc L (.int x :: .ref A :: st) ph := w_mem hc fun m' st2 ph2 c2 s2 hm => by
  subst hp
  unfold pm_mem at hm
  unfold zc at hg
  cases ha : pm_at ph A with
  | none => rw [ha] at hg; cases hg
  | some c =>
    simp only [ha] at hm hg
    match c, hm, hg with
    | .inl (2, .inr (.inl l)), hm, hg =>
      simp only [zix hx] at hm
      simp only at hg
      cases hq : l[k]? with
      | none => rw [hq] at hg; cases hg
      | some z => rw [hq] at hg hm; cases hg; cases hm; exact kk
theorem w_lal {x : Int32} (hc : pm_code kK j pc = some (5, .laload, aux)) (hx : x.toInt = (k : Int)) (hp : pc + 1 = pc') (kk : ∀ y, zc ph A k = some (.long y) → zW n D j Q pc' L (.long y :: st) ph) : zW n D j Q pc L (.int x :: .ref A :: st) ph := w_mem hc fun m' st2 ph2 c2 s2 hm => by
  subst hp
  unfold pm_mem at hm
  cases ha : pm_at ph A with
  | none => simp only [ha] at hm; cases hm
  | some c =>
    simp only [ha] at hm
    match c, hm, ha with
    | .inl (2, .inr (.inl l)), hm, ha =>
      simp only [zix hx] at hm
      cases hq : l[k]? with
      | none => rw [hq] at hm; cases hm
      | some z =>
        rw [hq] at hm
        cases hm
        exact kk z (by unfold zc; rw [ha]; show (l[k]?).map Value.long = _; rw [hq]; rfl)
theorem w_aalk {x : Int32} {v : Value} (hc : pm_code kK j pc = some (5, .aaload, aux)) (hg : zc ph A k = some v) (hx : x.toInt = (k : Int)) (hp : pc + 1 = pc') (kk : zW n D j Q pc' L (v :: st) ph) : zW n D j Q pc L (.int x :: .ref A :: st) ph := w_mem hc fun m' st2 ph2 c2 s2 hm => by
  subst hp
  unfold pm_mem at hm
  unfold zc at hg
  cases ha : pm_at ph A with
  | none => rw [ha] at hg; cases hg
  | some c =>
    simp only [ha] at hm hg
    match c, hm, hg with
    | .inl (4, .inr (.inr l)), hm, hg =>
      simp only [zix hx] at hm
      simp only at hg
      cases hq : l[k]? with
      | none => rw [hq] at hg; cases hg
      | some z => rw [hq] at hg hm; cases hg; cases hm; exact kk
theorem w_ias {x y : Int32} (hc : pm_code kK j pc = some (5, .iastore, aux)) (hx : x.toInt = (k : Int)) (hp : pc + 1 = pc') (kk : ∀ ph', zst ph ph' A k (.int y) → zW n D j Q pc' L st ph') : zW n D j Q pc L (.int y :: .int x :: .ref A :: st) ph := w_mem hc fun m' st2 ph2 c2 s2 hm => by
  subst hp
  unfold pm_mem at hm
  cases ha : pm_at ph A with
  | none => simp only [ha] at hm; cases hm
  | some c =>
    simp only [ha] at hm
    match c, hm, ha with
    | .inl (0, .inl l), hm, ha =>
      simp only at hm
      cases hq : pm_up l x y with
      | none => simp only [hq] at hm; cases hm
      | some l' =>
        simp only [hq] at hm
        cases hm
        obtain ⟨hlt, rfl⟩ := zupL hx hq
        refine kk _ (zst_set ha ?_ (fun i hi => ?_) ?_)
        · unfold zc
          rw [xat_self ha]
          show ((l.set k y)[k]?).map Value.int = _
          rw [List.getElem?_set_self hlt]
          rfl
        · unfold zc
          rw [xat_self ha, ha]
          show ((l.set k y)[i]?).map Value.int = (l[i]?).map Value.int
          rw [List.getElem?_set_ne (Ne.symm hi)]
        · unfold zln
          rw [xat_self ha, ha]
          show some (l.set k y).length = some l.length
          rw [List.length_set]
theorem w_bas {x y : Int32} (hc : pm_code kK j pc = some (5, .bastore, aux)) (hx : x.toInt = (k : Int)) (hp : pc + 1 = pc') (kk : ∀ ph', zst ph ph' A k (.int (y &&& 1)) → zW n D j Q pc' L st ph') : zW n D j Q pc L (.int y :: .int x :: .ref A :: st) ph := w_mem hc fun m' st2 ph2 c2 s2 hm => by
  subst hp
  unfold pm_mem at hm
  cases ha : pm_at ph A with
  | none => simp only [ha] at hm; cases hm
  | some c =>
    simp only [ha] at hm
    match c, hm, ha with
    | .inl (1, .inl l), hm, ha =>
      simp only at hm
      cases hq : pm_up l x (y &&& 1) with
      | none => simp only [hq] at hm; cases hm
      | some l' =>
        simp only [hq] at hm
        cases hm
        obtain ⟨hlt, rfl⟩ := zupL hx hq
        refine kk _ (zst_set ha ?_ (fun i hi => ?_) ?_)
        · unfold zc
          rw [xat_self ha]
          show ((l.set k (y &&& 1))[k]?).map Value.int = _
          rw [List.getElem?_set_self hlt]
          rfl
        · unfold zc
          rw [xat_self ha, ha]
          show ((l.set k (y &&& 1))[i]?).map Value.int = (l[i]?).map Value.int
          rw [List.getElem?_set_ne (Ne.symm hi)]
        · unfold zln
          rw [xat_self ha, ha]
          show some (l.set k (y &&& 1)).length = some l.length
          rw [List.length_set]
theorem w_las {x : Int32} {y : Int64} (hc : pm_code kK j pc = some (5, .lastore, aux)) (hx : x.toInt = (k : Int)) (hp : pc + 1 = pc') (kk : ∀ ph', zst ph ph' A k (.long y) → zW n D j Q pc' L st ph') : zW n D j Q pc L (.long y :: .int x :: .ref A :: st) ph := w_mem hc fun m' st2 ph2 c2 s2 hm => by
  subst hp
  unfold pm_mem at hm
  cases ha : pm_at ph A with
  | none => simp only [ha] at hm; cases hm
  | some c =>
    simp only [ha] at hm
    match c, hm, ha with
    | .inl (2, .inr (.inl l)), hm, ha =>
      simp only at hm
      cases hq : pm_up l x y with
      | none => simp only [hq] at hm; cases hm
      | some l' =>
        simp only [hq] at hm
        cases hm
        obtain ⟨hlt, rfl⟩ := zupL hx hq
        refine kk _ (zst_set ha ?_ (fun i hi => ?_) ?_)
        · unfold zc
          rw [xat_self ha]
          show ((l.set k y)[k]?).map Value.long = _
          rw [List.getElem?_set_self hlt]
          rfl
        · unfold zc
          rw [xat_self ha, ha]
          show ((l.set k y)[i]?).map Value.long = (l[i]?).map Value.long
          rw [List.getElem?_set_ne (Ne.symm hi)]
        · unfold zln
          rw [xat_self ha, ha]
          show some (l.set k y).length = some l.length
          rw [List.length_set]
theorem w_aln {m : Nat} (hc : pm_code kK j pc = some (5, .arraylength, aux)) (hg : zln ph A = some m) (hp : pc + 1 = pc') (kk : zW n D j Q pc' L (.int (Int32.ofNat m) :: st) ph) : zW n D j Q pc L (.ref A :: st) ph := w_mem hc fun m' st2 ph2 c2 s2 hm => by
  subst hp
  unfold pm_mem at hm
  unfold zln at hg
  cases ha : pm_at ph A with
  | none => simp only [ha] at hg; cases hg
  | some c =>
    simp only [ha] at hm hg
    match c, hm, hg with
    | .inl (t, .inl l), hm, hg =>
      simp only at hm hg
      cases hg
      cases hb : Nat.ble t 4 with
      | false => rw [hb] at hm; cases hm
      | true => rw [hb] at hm; cases hm; exact kk
    | .inl (t, .inr (.inl l)), hm, hg =>
      simp only at hm hg
      cases hg
      cases hb : Nat.ble t 4 with
      | false => rw [hb] at hm; cases hm
      | true => rw [hb] at hm; cases hm; exact kk
    | .inl (t, .inr (.inr l)), hm, hg =>
      simp only at hm hg
      cases hg
      cases hb : Nat.ble t 4 with
      | false => rw [hb] at hm; cases hm
      | true => rw [hb] at hm; cases hm; exact kk
/-- eight ints are copied from one array to another -/
theorem w_ac8 {B a9 b9 : Nat} {r : List Value} (hc : pm_code kK j pc = some (5, .invokestatic fi, aux)) (hl : pm_lnk kK (pm_own kK j) fi = some (5, a9, b9, v0)) (hAn : zln ph A = some 8) (hBn : zln ph B = some 8) (hp : pc + 3 = pc') (kk : ∀ ph', (∀ i, i < 8 → zc ph' B i = zc ph A i) → (∀ b c, b ≠ B → zc ph' b c = zc ph b c) → (∀ b, zln ph' b = zln ph b) → zW n D j Q pc' L r ph') : zW n D j Q pc L (.int ((Int8.ofInt 8).toInt32) :: .int (Int32.ofInt 0) :: .ref B :: .int (Int32.ofInt 0) :: .ref A :: r) ph := w_mem hc fun m' st2 ph2 c2 s2 hm => by
  subst hp
  unfold pm_mem at hm
  unfold zln at hAn hBn
  simp only [hl] at hm
  cases ha : pm_at ph A with
  | none => simp only [ha] at hm; cases hm
  | some c =>
    cases hb : pm_at ph B with
    | none => simp only [ha, hb] at hm; cases hm
    | some c9 =>
      rw [ha] at hAn
      rw [hb] at hBn
      simp only [ha, hb] at hm
      match c, c9, hm, ha, hb, hAn, hBn with
      | .inl (0, .inl l), .inl (0, .inl l2), hm, ha, hb, hAn, hBn =>
        have h8 : l.length = 8 := Option.some.inj hAn
        have h9 : l2.length = 8 := Option.some.inj hBn
        simp only at hm
        have n0 : (Int32.ofInt 0).toNatClampNeg = 0 := by decide
        have n8 : ((Int8.ofInt 8).toInt32).toNatClampNeg = 8 := by decide
        rw [n0, n8] at hm
        have ec : pm_cpy l l2 0 0 8 = l := by
          unfold pm_cpy
          rw [List.take_zero, List.drop_zero, ← h8, List.take_length, show 0 + l.length = l2.length by omega, List.drop_length]
          simp
        rw [ec] at hm
        have hm := zbif hm
        cases hm
        refine kk _ (fun i hi => ?_) (fun b c hne => ?_) (fun b => ?_)
        · unfold zc
          rw [xat_self hb, ha]
        · unfold zc
          rw [xat_ne hne]
        · by_cases e : b = B
          · subst e
            unfold zln
            rw [xat_self hb, hb]
            show some l.length = some l2.length
            rw [h8, h9]
          · unfold zln
            rw [xat_ne e]
/-! calls and ends -/
theorem w_inv (hc : pm_code kK j pc = some (6, ins, aux)) (h : ∀ j' as r, pm_inv kK (pm_own kK j) ins st ph = some (j', as, r) → ∃ P : Option Value → pm_H → Prop, zM j' as ph P ∧ ∀ v ph', P v ph' → zW n D j Q (pc + 3) L (v.toList ++ r) ph') : zW n D j Q pc L st ph := fun k hk cs ss r hr => by
  cases k with
  | zero => exact hr.elim
  | succ k =>
    rw [pm_Tn] at hr
    unfold pm_step at hr
    simp only [hc] at hr
    cases hm : pm_inv kK (pm_own kK j) ins st ph with
    | none => simp only [hm] at hr
    | some q =>
      obtain ⟨j', as, r2⟩ := q
      simp only [hm] at hr
      obtain ⟨v, ph', c1, s1, h1, h2⟩ := hr
      obtain ⟨P, hz, kk⟩ := h _ _ _ hm
      exact kk v ph' (hz D _ h1) k (by omega) _ _ r h2
theorem w_cs {j' : Nat} {P : Option Value → pm_H → Prop} (hc : pm_code kK j pc = some (6, .invokestatic fi, aux)) (hl : pm_lnk kK (pm_own kK j) fi = some (1, j', na, v0)) (ha : (st.take na).reverse = as) (hd : st.drop na = r) (hp : pc + 3 = pc') (hz : zM j' as ph P) (kk : ∀ v ph', P v ph' → zW n D j Q pc' L (v.toList ++ r) ph') : zW n D j Q pc L st ph := w_inv hc fun j2 as2 r2 hi => by
  subst hp ha hd
  unfold pm_inv at hi
  simp only [hl] at hi
  generalize hg : (Nat.ble na st.length && Nat.ble ((st.drop na).map fun v => v.category).sum 8) = bb at hi
  cases bb with
  | false => cases hi
  | true => cases hi; exact ⟨P, hz, kk⟩
theorem w_cv {j' : Nat} {P : Option Value → pm_H → Prop} (hc : pm_code kK j pc = some (6, .invokevirtual fi, aux)) (hl : pm_lnk kK (pm_own kK j) fi = some (2, j', na, .ref ci)) (hd : st.drop na = .ref A :: r) (ha : .ref A :: (st.take na).reverse = as) (hp : pc + 3 = pc') (hz : zM j' as ph P) (kk : ∀ v ph', P v ph' → zW n D j Q pc' L (v.toList ++ r) ph') : zW n D j Q pc L st ph := w_inv hc fun j2 as2 r2 hi => by
  subst hp ha
  unfold pm_inv at hi
  simp only [hl, hd] at hi
  cases hA : pm_at ph A with
  | none => simp only [hA] at hi; cases hi
  | some c =>
    simp only [hA] at hi
    cases c with
    | inl c => simp only at hi; cases hi
    | inr c =>
      obtain ⟨cj, fs⟩ := c
      simp only at hi
      generalize hg : (Nat.beq ci cj && Nat.ble (r.map fun v => v.category).sum 8) = bb at hi
      cases bb with
      | false => cases hi
      | true => cases hi; exact ⟨P, hz, kk⟩
theorem w_ret {v : Option Value} (hc : pm_code kK j pc = some (7, ins, aux)) (h : ∀ u, pm_ret (pm_sig kK j).2.2 ins st = some u → u = v) (kk : Q v ph) : zW n D j Q pc L st ph := fun k hk cs ss r hr => by
  cases k with
  | zero => exact hr.elim
  | succ k =>
    rw [pm_Tn] at hr
    unfold pm_step at hr
    simp only [hc] at hr
    cases hm : pm_ret (pm_sig kK j).2.2 ins st with
    | none => simp only [hm] at hr
    | some u =>
      simp only [hm] at hr
      have := h u hm
      subst this
      subst hr
      exact kk
end ZW
theorem zr_v {v : Option Value} {kd : Nat} {ins : Instr} {st : List Value} (h : pm_ret kd ins st = some v) : ∀ w, pm_ret kd ins st = some w → w = v := fun w hw => by
  rw [h] at hw
  exact (Option.some.inj hw).symm
theorem zr_z {x : Int32} : ∀ w, pm_ret 2 .ireturn [.int x] = some w → w = some (.int x) := fun w hw => by
  have h : (bif Nat.beq 2 1 then some (some (Value.int x)) else bif Nat.beq 2 2 && (bif decide (x = 0) then true else decide (x = 1)) then some (some (Value.int x)) else bif Nat.beq 2 5 && decide (x.toUInt32.toUInt16.toUInt32.toInt32 = x) then some (some (Value.int x)) else bif Nat.beq 2 6 && decide (x.toInt8.toInt32 = x) then some (some (Value.int x)) else none) = some w := hw
  have e1 : Nat.beq 2 1 = false := rfl
  have e2 : Nat.beq 2 2 = true := rfl
  have e3 : Nat.beq 2 5 = false := rfl
  have e4 : Nat.beq 2 6 = false := rfl
  rw [e1, e2, e3, e4] at h
  simp only [Bool.false_and, Bool.true_and, cond_false] at h
  generalize hg : (bif decide (x = 0) then true else decide (x = 1)) = bb at h
  cases bb with
  | false => cases h
  | true => exact (Option.some.inj h).symm
/-! frames -/
def zFr (A : List Nat) (F : List (Nat × Nat)) (ph ph' : pm_H) : Prop := (∀ b c, b ∉ A → (b, c) ∉ F → zc ph' b c = zc ph b c) ∧ ∀ b, zln ph' b = zln ph b
theorem zFr_refl {A : List Nat} {F : List (Nat × Nat)} {p : pm_H} : zFr A F p p := ⟨fun _ _ _ _ => rfl, fun _ => rfl⟩
theorem zFr_trans {A : List Nat} {F : List (Nat × Nat)} {p q r : pm_H} (h : zFr A F p q) (g : zFr A F q r) : zFr A F p r := ⟨fun b c h1 h2 => (g.1 b c h1 h2).trans (h.1 b c h1 h2), fun b => (g.2 b).trans (h.2 b)⟩
theorem zFr_st {A : List Nat} {F : List (Nat × Nat)} {p q : pm_H} {a k : Nat} {v : Value} (u : zst p q a k v) (h : a ∈ A ∨ (a, k) ∈ F) : zFr A F p q := ⟨fun b c h1 h2 => u.2.1 b c (fun e => by
  obtain ⟨rfl, rfl⟩ := e
  rcases h with h | h
  · exact h1 h
  · exact h2 h), u.2.2⟩
theorem zFr_add {A : List Nat} {F : List (Nat × Nat)} {p q r : pm_H} {a k : Nat} {v : Value} (f : zFr A F p q) (u : zst q r a k v) (h : a ∈ A ∨ (a, k) ∈ F) : zFr A F p r := zFr_trans f (zFr_st u h)
theorem zFr_mono {A A' : List Nat} {F F' : List (Nat × Nat)} {p q : pm_H} (f : zFr A F p q) (hA : ∀ a ∈ A, a ∈ A') (hF : ∀ x ∈ F, x ∈ F') : zFr A' F' p q := ⟨fun b c h1 h2 => f.1 b c (fun h => h1 (hA _ h)) (fun h => h2 (hF _ h)), f.2⟩
noncomputable def zqB (a : Nat) (l : List Nat) : Bool := List.rec (motive := fun _ => Bool) false (fun b _ ih => Bool.rec ih true (Nat.beq a b)) l
noncomputable def zqP (a k : Nat) (l : List (Nat × Nat)) : Bool := List.rec (motive := fun _ => Bool) false (fun p _ ih => Bool.rec ih (Bool.rec ih true (Nat.beq k p.2)) (Nat.beq a p.1)) l
noncomputable def zqR (a : Nat) (l : List (Nat × Nat)) : Bool := List.rec (motive := fun _ => Bool) false (fun p _ ih => Bool.rec ih true (Nat.beq a p.1)) l
noncomputable def zqA (l m : List Nat) : Bool := List.rec (motive := fun _ => Bool) true (fun a _ ih => Bool.rec false ih (zqB a m)) l
noncomputable def zqF (l m : List (Nat × Nat)) : Bool := List.rec (motive := fun _ => Bool) true (fun p _ ih => Bool.rec false ih (zqP p.1 p.2 m)) l
theorem zqB_c {a b : Nat} {l : List Nat} : zqB a (b :: l) = Bool.rec (zqB a l) true (Nat.beq a b) := rfl
theorem zqP_c {a k : Nat} {p : Nat × Nat} {l : List (Nat × Nat)} : zqP a k (p :: l) = Bool.rec (zqP a k l) (Bool.rec (zqP a k l) true (Nat.beq k p.2)) (Nat.beq a p.1) := rfl
theorem zqR_c {a : Nat} {p : Nat × Nat} {l : List (Nat × Nat)} : zqR a (p :: l) = Bool.rec (zqR a l) true (Nat.beq a p.1) := rfl
theorem zqA_c {a : Nat} {l m : List Nat} : zqA (a :: l) m = Bool.rec false (zqA l m) (zqB a m) := rfl
theorem zqF_c {p : Nat × Nat} {l m : List (Nat × Nat)} : zqF (p :: l) m = Bool.rec false (zqF l m) (zqP p.1 p.2 m) := rfl
theorem zqi {a : Nat} : ∀ {l : List Nat}, zqB a l = true → a ∈ l := by
  intro l
  induction l with
  | nil => intro h; cases (show false = true from h)
  | cons b l ih =>
    intro h
    rw [zqB_c] at h
    cases e : Nat.beq a b with
    | true =>
      have e2 := Nat.eq_of_beq_eq_true e
      subst e2
      exact List.mem_cons_self
    | false =>
      rw [e] at h
      exact List.mem_cons_of_mem _ (ih h)
theorem zqm {a : Nat} : ∀ {l : List Nat}, zqB a l = false → a ∉ l := by
  intro l
  induction l with
  | nil => intro _; exact List.not_mem_nil
  | cons b l ih =>
    intro h
    rw [zqB_c] at h
    cases e : Nat.beq a b with
    | true =>
      rw [e] at h
      cases (show true = false from h)
    | false =>
      rw [e] at h
      intro g
      rcases List.mem_cons.mp g with g | g
      · rw [g, Nat.beq_refl] at e
        cases e
      · exact ih h g
theorem zqj {a k : Nat} : ∀ {l : List (Nat × Nat)}, zqP a k l = true → (a, k) ∈ l := by
  intro l
  induction l with
  | nil => intro h; cases (show false = true from h)
  | cons p l ih =>
    obtain ⟨b, c⟩ := p
    intro h
    rw [zqP_c] at h
    cases e : Nat.beq a b with
    | false =>
      rw [show Nat.beq a ((b, c) : Nat × Nat).1 = Nat.beq a b from rfl, e] at h
      exact List.mem_cons_of_mem _ (ih h)
    | true =>
      rw [show Nat.beq a ((b, c) : Nat × Nat).1 = Nat.beq a b from rfl, e] at h
      cases e2 : Nat.beq k c with
      | false =>
        rw [show Nat.beq k ((b, c) : Nat × Nat).2 = Nat.beq k c from rfl, e2] at h
        exact List.mem_cons_of_mem _ (ih h)
      | true =>
        have e3 := Nat.eq_of_beq_eq_true e
        have e4 := Nat.eq_of_beq_eq_true e2
        subst e3
        subst e4
        exact List.mem_cons_self
theorem zqp {a k : Nat} : ∀ {l : List (Nat × Nat)}, zqP a k l = false → (a, k) ∉ l := by
  intro l
  induction l with
  | nil => intro _; exact List.not_mem_nil
  | cons p l ih =>
    obtain ⟨b, c⟩ := p
    intro h
    rw [zqP_c] at h
    intro g
    rcases List.mem_cons.mp g with g | g
    · cases g
      rw [show Nat.beq a ((a, k) : Nat × Nat).1 = true from Nat.beq_refl a, show Nat.beq k ((a, k) : Nat × Nat).2 = true from Nat.beq_refl k] at h
      cases (show true = false from h)
    · cases e : Nat.beq a b with
      | false =>
        rw [show Nat.beq a ((b, c) : Nat × Nat).1 = Nat.beq a b from rfl, e] at h
        exact ih h g
      | true =>
        rw [show Nat.beq a ((b, c) : Nat × Nat).1 = Nat.beq a b from rfl, e] at h
        cases e2 : Nat.beq k c with
        | false =>
          rw [show Nat.beq k ((b, c) : Nat × Nat).2 = Nat.beq k c from rfl, e2] at h
          exact ih h g
        | true =>
          rw [show Nat.beq k ((b, c) : Nat × Nat).2 = Nat.beq k c from rfl, e2] at h
          cases (show true = false from h)
theorem zqr {a k : Nat} : ∀ {l : List (Nat × Nat)}, zqR a l = false → (a, k) ∉ l := by
  intro l
  induction l with
  | nil => intro _; exact List.not_mem_nil
  | cons p l ih =>
    obtain ⟨b, c⟩ := p
    intro h
    rw [zqR_c] at h
    intro g
    rcases List.mem_cons.mp g with g | g
    · cases g
      rw [show Nat.beq a ((a, k) : Nat × Nat).1 = Nat.beq a a from rfl, Nat.beq_refl] at h
      cases (show true = false from h)
    · cases e : Nat.beq a b with
      | false =>
        rw [show Nat.beq a ((b, c) : Nat × Nat).1 = Nat.beq a b from rfl, e] at h
        exact ih h g
      | true =>
        rw [show Nat.beq a ((b, c) : Nat × Nat).1 = Nat.beq a b from rfl, e] at h
        cases (show true = false from h)
theorem zqa {m : List Nat} : ∀ {l : List Nat}, zqA l m = true → ∀ a ∈ l, a ∈ m := by
  intro l
  induction l with
  | nil => intro _ a h; exact absurd h List.not_mem_nil
  | cons b l ih =>
    intro h a g
    rw [zqA_c] at h
    cases e : zqB b m with
    | false =>
      rw [e] at h
      cases (show false = true from h)
    | true =>
      rw [e] at h
      rcases List.mem_cons.mp g with g | g
      · rw [g]
        exact zqi e
      · exact ih h a g
theorem zqf {m : List (Nat × Nat)} : ∀ {l : List (Nat × Nat)}, zqF l m = true → ∀ a ∈ l, a ∈ m := by
  intro l
  induction l with
  | nil => intro _ a h; exact absurd h List.not_mem_nil
  | cons b l ih =>
    intro h a g
    rw [zqF_c] at h
    cases e : zqP b.1 b.2 m with
    | false =>
      rw [e] at h
      cases (show false = true from h)
    | true =>
      rw [e] at h
      rcases List.mem_cons.mp g with g | g
      · rw [g]
        exact zqj e
      · exact ih h a g
section ZW2
variable {n D j pc pc' aux A : Nat} {Q : Option Value → pm_H → Prop} {L : List (Option Value)} {st : List Value} {ph : pm_H}
theorem zts_d {d lo hi : Int} {offs : Array Int} {aux pc t : Nat} {x : Int32} {r : List Value} (h : x.toInt < lo ∨ hi < x.toInt) (ht : pm_tgt pc d = some t) : pm_br (.tableswitch d lo hi offs) aux pc (.int x :: r) = some (t, r) := by
  have e : (decide (x.toInt < lo) || decide (hi < x.toInt)) = true := by
    rcases h with h | h
    · rw [decide_eq_true h]; rfl
    · rw [decide_eq_true h]; exact Bool.or_true _
  unfold pm_br
  simp only [e, cond_true, ht]
theorem zts_i {d lo hi o : Int} {offs : Array Int} {aux pc t k : Nat} {x : Int32} {r : List Value} (h : x.toInt = lo + (k : Int)) (hh : lo + (k : Int) ≤ hi) (ho : offs[k]? = some o) (ht : pm_tgt pc o = some t) : pm_br (.tableswitch d lo hi offs) aux pc (.int x :: r) = some (t, r) := by
  have e : (decide (x.toInt < lo) || decide (hi < x.toInt)) = false := by
    rw [decide_eq_false (by omega), decide_eq_false (by omega)]; rfl
  have e2 : (x.toInt - lo).toNat = k := by omega
  unfold pm_br
  simp only [e, cond_false, e2, ho, ht]
end ZW2
