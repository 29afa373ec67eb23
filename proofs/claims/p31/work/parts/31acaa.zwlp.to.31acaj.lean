/-! joined: 31acaa.zwlp.lean.txt 31acab.zstat.lean.txt 31acac.zbits.lean.txt 31acad.zms.lean.txt 31acae.zmsee.lean.txt 31acaf.zmview.lean.txt 31acag.zmsets.lean.txt 31acah.zmhour.lean.txt 31acai.zmwr.lean.txt 31acaj.zgeo.lean.txt -/
section
/-! W: what a run's end must be, going backwards; nothing is asked of whether there is an end -/
def zc (ph : pm_H) (a k : Nat) : Option Value := match pm_at ph a with
  | some (.inr (_, fl)) => fl[k]?
  | some (.inl (_, .inl l)) => (l[k]?).map .int
  | some (.inl (_, .inr (.inl l))) => (l[k]?).map .long
  | some (.inl (_, .inr (.inr l))) => (l[k]?).map pm_rv
  | none => none
def zln (ph : pm_H) (a : Nat) : Option Nat := match pm_at ph a with
  | some (.inl (_, .inl l)) => some l.length
  | some (.inl (_, .inr (.inl l))) => some l.length
  | some (.inl (_, .inr (.inr l))) => some l.length
  | _ => none
def zst (ph ph' : pm_H) (a k : Nat) (v : Value) : Prop := zc ph' a k = some v ∧ (∀ b c, ¬ (b = a ∧ c = k) → zc ph' b c = zc ph b c) ∧ ∀ b, zln ph' b = zln ph b
def zW (n D j : Nat) (Q : Option Value → pm_H → Prop) (pc : Nat) (L : List (Option Value)) (st : List Value) (ph : pm_H) : Prop := ∀ k, k ≤ n → ∀ cs ss r, pm_Tn kK false (pm_Rd kK false D) j k (pc, L, st, ph, cs, ss) r → Q r.1 r.2.1
def zM (j : Nat) (as : List Value) (ph : pm_H) (P : Option Value → pm_H → Prop) : Prop := ∀ D r, pm_Rd kK false D j as ph r → P r.1 r.2.1
theorem zbif {α : Type} {b : Bool} {x y : α} (h : (bif b then some x else none) = some y) : x = y := by
  cases b with
  | false => cases h
  | true => exact Option.some.inj h
theorem ztl {x : Int32} : x.toInt64.toInt = x.toInt := Int32.toInt_toInt64 x
theorem zat_lt {ph : pm_H} {a : Nat} {c : pm_C} (h : pm_at ph a = some c) : a < ph.length := by
  unfold pm_at at h
  cases hb : Nat.blt a 1048576 with
  | false => rw [hb] at h; cases h
  | true => rw [hb] at h; exact (List.getElem?_eq_some_iff.mp h).1
theorem zat_set {ph : pm_H} {a b : Nat} {c c0 : pm_C} (h : pm_at ph a = some c0) : pm_at (ph.set a c) b = if b = a then some c else pm_at ph b := by
  by_cases e : b = a
  · subst e; rw [if_pos rfl]; exact xat_self h
  · rw [if_neg e]; exact xat_ne e
theorem zst_set {ph : pm_H} {a k : Nat} {c c0 : pm_C} {v : Value} (h : pm_at ph a = some c0) (h1 : zc (ph.set a c) a k = some v) (h2 : ∀ i, i ≠ k → zc (ph.set a c) a i = zc ph a i) (h3 : zln (ph.set a c) a = zln ph a) : zst ph (ph.set a c) a k v := by
  refine ⟨h1, fun b i hn => ?_, fun b => ?_⟩
  · by_cases e : b = a
    · subst e
      exact h2 i (fun q => hn ⟨rfl, q⟩)
    · unfold zc; rw [xat_ne e]
  · by_cases e : b = a
    · subst e; exact h3
    · unfold zln; rw [xat_ne e]
section ZW
variable {n D j pc pc' aux na : Nat} {Q : Option Value → pm_H → Prop} {ins : Instr} {L L' : List (Option Value)} {st st' r as : List Value} {ph : pm_H} {v0 : Value} {o : Int} {A k fi ci : Nat}
theorem zW_le {n' : Nat} (h : zW n D j Q pc L st ph) (hn : n' ≤ n) : zW n' D j Q pc L st ph := fun k hk => h k (Nat.le_trans hk hn)
theorem zM_mk {P : Option Value → pm_H → Prop} (h : ∀ n D, zW n D j P 0 (pm_sl as ++ List.replicate ((pm_sig kK j).2.1 - (pm_sl as).length) none) [] ph) : zM j as ph P := fun D r hr => by
  cases D with
  | zero => exact hr.elim
  | succ D =>
    obtain ⟨-, n, hn⟩ := hr
    exact h n D n (Nat.le_refl n) 0 0 r hn
theorem zM_imp {P P' : Option Value → pm_H → Prop} (h : zM j as ph P) (hi : ∀ v ph', P v ph' → P' v ph') : zM j as ph P' := fun D r hr => hi _ _ (h D r hr)
theorem zM_and {P P' : Option Value → pm_H → Prop} (h : zM j as ph P) (h' : zM j as ph P') : zM j as ph (fun v q => P v q ∧ P' v q) := fun D r hr => ⟨h D r hr, h' D r hr⟩
theorem w_sb {ph' : pm_H} (h : ∀ cs ss, ∃ c1 s1, pm_step kK false j (pc, L, st, ph, cs, ss) = some (.inl (pc', L', st', ph', c1, s1))) (kk : ∀ k, k < n → zW k D j Q pc' L' st' ph') : zW n D j Q pc L st ph := fun k hk cs ss r hr => by
  cases k with
  | zero => exact hr.elim
  | succ k =>
    obtain ⟨c1, s1, e⟩ := h cs ss
    rw [pm_Tn, e] at hr
    exact kk k (by omega) k (Nat.le_refl k) c1 s1 r hr
theorem w_s {ph' : pm_H} (h : ∀ cs ss, ∃ c1 s1, pm_step kK false j (pc, L, st, ph, cs, ss) = some (.inl (pc', L', st', ph', c1, s1))) (kk : zW n D j Q pc' L' st' ph') : zW n D j Q pc L st ph := w_sb h (fun k hk => zW_le kk (Nat.le_of_lt hk))
theorem w_no (h : ∀ cs ss, pm_step kK false j (pc, L, st, ph, cs, ss) = none) : zW n D j Q pc L st ph := fun k hk cs ss r hr => by
  cases k with
  | zero => exact hr.elim
  | succ k =>
    rw [pm_Tn, h cs ss] at hr
    exact hr.elim
theorem w_alu (hc : pm_code kK j pc = some (0, ins, aux)) (h : pm_alu ins st = some st') (hp : pc + 1 = pc') (kk : zW n D j Q pc' L st' ph) : zW n D j Q pc L st ph := by
  subst hp
  exact w_s (fun cs ss => ⟨cs, ss, xs0 hc h⟩) kk
theorem w_alun (hc : pm_code kK j pc = some (0, ins, aux)) (h : pm_alu ins st = none) : zW n D j Q pc L st ph := w_no fun cs ss => by
  unfold pm_step
  simp only [hc, h]
theorem w_idiv {x y : Int32} (hc : pm_code kK j pc = some (0, .idiv, aux)) (hp : pc + 1 = pc') (kk : y.toInt ≠ 0 → zW n D j Q pc' L (.int (x / y) :: st) ph) : zW n D j Q pc L (.int y :: .int x :: st) ph := by
  by_cases h : y.toInt = 0
  · refine w_alun hc ?_
    have e : y = 0 := Int32.toInt_inj.mp h
    subst e
    rfl
  · exact w_alu hc (xv_idiv x y _ h) hp (kk h)
theorem w_irem {x y : Int32} (hc : pm_code kK j pc = some (0, .irem, aux)) (hp : pc + 1 = pc') (kk : y.toInt ≠ 0 → zW n D j Q pc' L (.int (x - x / y * y) :: st) ph) : zW n D j Q pc L (.int y :: .int x :: st) ph := by
  by_cases h : y.toInt = 0
  · refine w_alun hc ?_
    have e : y = 0 := Int32.toInt_inj.mp h
    subst e
    rfl
  · exact w_alu hc (xv_irem x y _ h) hp (kk h)
theorem w_push {v : Value} {m : Nat} (hc : pm_code kK j pc = some (1, ins, aux)) (h : pm_push kK (pm_own kK j) ins = some (v, m)) (hp : pc + m = pc') (kk : zW n D j Q pc' L (v :: st) ph) : zW n D j Q pc L st ph := by
  subst hp
  exact w_s (fun cs ss => ⟨cs, ss, xs1 hc h⟩) kk
theorem w_load {v : Value} {m : Nat} (hc : pm_code kK j pc = some (2, ins, aux)) (h : pm_load ins L = some (v, m)) (hp : pc + m = pc') (kk : zW n D j Q pc' L (v :: st) ph) : zW n D j Q pc L st ph := by
  subst hp
  exact w_s (fun cs ss => ⟨cs, ss, xs2 hc h⟩) kk
theorem w_store {m : Nat} (hc : pm_code kK j pc = some (3, ins, aux)) (h : pm_store ins L st = some (L', st', m)) (hp : pc + m = pc') (kk : zW n D j Q pc' L' st' ph) : zW n D j Q pc L st ph := by
  subst hp
  exact w_s (fun cs ss => ⟨cs, ss, xs3 hc h⟩) kk
theorem w_br (hc : pm_code kK j pc = some (4, ins, aux)) (h : pm_br ins aux pc st = some (pc', st')) (kk : zW n D j Q pc' L st' ph) : zW n D j Q pc L st ph := w_s (fun cs ss => ⟨cs, ss, xs4 hc h⟩) kk
/-- back to a head: there is less left -/
theorem w_gb (hc : pm_code kK j pc = some (4, .goto o, aux)) (kk : ∀ k, k < n → zW k D j Q aux L st ph) : zW n D j Q pc L st ph := w_sb (fun cs ss => ⟨cs, ss, xs4 hc rfl⟩) kk
section BR
variable {x y : Int32}
theorem w_ilt (hc : pm_code kK j pc = some (4, .if_icmp .lt o, aux)) (hp : pc + 3 = pc') (kt : x.toInt < y.toInt → zW n D j Q aux L st ph) (kf : y.toInt ≤ x.toInt → zW n D j Q pc' L st ph) : zW n D j Q pc L (.int y :: .int x :: st) ph := by
  subst hp
  by_cases h : x.toInt < y.toInt
  · exact w_br hc (by show some (bif decide (x < y) then aux else pc + 3, st) = _; rw [decide_eq_true (x32lt.mpr h)]; rfl) (kt h)
  · exact w_br hc (by show some (bif decide (x < y) then aux else pc + 3, st) = _; rw [decide_eq_false (fun q => h (x32lt.mp q))]; rfl) (kf (by omega))
theorem w_ige (hc : pm_code kK j pc = some (4, .if_icmp .ge o, aux)) (hp : pc + 3 = pc') (kt : y.toInt ≤ x.toInt → zW n D j Q aux L st ph) (kf : x.toInt < y.toInt → zW n D j Q pc' L st ph) : zW n D j Q pc L (.int y :: .int x :: st) ph := by
  subst hp
  by_cases h : y.toInt ≤ x.toInt
  · exact w_br hc (by show some (bif decide (y ≤ x) then aux else pc + 3, st) = _; rw [decide_eq_true (x32le.mpr h)]; rfl) (kt h)
  · exact w_br hc (by show some (bif decide (y ≤ x) then aux else pc + 3, st) = _; rw [decide_eq_false (fun q => h (x32le.mp q))]; rfl) (kf (by omega))
theorem w_igt (hc : pm_code kK j pc = some (4, .if_icmp .gt o, aux)) (hp : pc + 3 = pc') (kt : y.toInt < x.toInt → zW n D j Q aux L st ph) (kf : x.toInt ≤ y.toInt → zW n D j Q pc' L st ph) : zW n D j Q pc L (.int y :: .int x :: st) ph := by
  subst hp
  by_cases h : y.toInt < x.toInt
  · exact w_br hc (by show some (bif decide (y < x) then aux else pc + 3, st) = _; rw [decide_eq_true (x32lt.mpr h)]; rfl) (kt h)
  · exact w_br hc (by show some (bif decide (y < x) then aux else pc + 3, st) = _; rw [decide_eq_false (fun q => h (x32lt.mp q))]; rfl) (kf (by omega))
theorem w_ile (hc : pm_code kK j pc = some (4, .if_icmp .le o, aux)) (hp : pc + 3 = pc') (kt : x.toInt ≤ y.toInt → zW n D j Q aux L st ph) (kf : y.toInt < x.toInt → zW n D j Q pc' L st ph) : zW n D j Q pc L (.int y :: .int x :: st) ph := by
  subst hp
  by_cases h : x.toInt ≤ y.toInt
  · exact w_br hc (by show some (bif decide (x ≤ y) then aux else pc + 3, st) = _; rw [decide_eq_true (x32le.mpr h)]; rfl) (kt h)
  · exact w_br hc (by show some (bif decide (x ≤ y) then aux else pc + 3, st) = _; rw [decide_eq_false (fun q => h (x32le.mp q))]; rfl) (kf (by omega))
theorem w_ieq (hc : pm_code kK j pc = some (4, .if_icmp .eq o, aux)) (hp : pc + 3 = pc') (kt : x.toInt = y.toInt → zW n D j Q aux L st ph) (kf : x.toInt ≠ y.toInt → zW n D j Q pc' L st ph) : zW n D j Q pc L (.int y :: .int x :: st) ph := by
  subst hp
  by_cases h : x.toInt = y.toInt
  · exact w_br hc (by show some (bif decide (x = y) then aux else pc + 3, st) = _; rw [decide_eq_true (Int32.toInt_inj.mp h)]; rfl) (kt h)
  · exact w_br hc (by show some (bif decide (x = y) then aux else pc + 3, st) = _; rw [decide_eq_false (fun q => h (by rw [q]))]; rfl) (kf h)
theorem w_ine (hc : pm_code kK j pc = some (4, .if_icmp .ne o, aux)) (hp : pc + 3 = pc') (kt : x.toInt ≠ y.toInt → zW n D j Q aux L st ph) (kf : x.toInt = y.toInt → zW n D j Q pc' L st ph) : zW n D j Q pc L (.int y :: .int x :: st) ph := by
  subst hp
  by_cases h : x.toInt = y.toInt
  · exact w_br hc (by show some (bif decide (x = y) then pc + 3 else aux, st) = _; rw [decide_eq_true (Int32.toInt_inj.mp h)]; rfl) (kf h)
  · exact w_br hc (by show some (bif decide (x = y) then pc + 3 else aux, st) = _; rw [decide_eq_false (fun q => h (by rw [q]))]; rfl) (kt h)
theorem w_zlt (hc : pm_code kK j pc = some (4, .ifCond .lt o, aux)) (hp : pc + 3 = pc') (kt : x.toInt < 0 → zW n D j Q aux L st ph) (kf : 0 ≤ x.toInt → zW n D j Q pc' L st ph) : zW n D j Q pc L (.int x :: st) ph := by
  subst hp
  by_cases h : x.toInt < 0
  · exact w_br hc (by show some (bif decide (x < 0) then aux else pc + 3, st) = _; rw [decide_eq_true (x32lt.mpr h)]; rfl) (kt h)
  · exact w_br hc (by show some (bif decide (x < 0) then aux else pc + 3, st) = _; rw [decide_eq_false (fun q => h (x32lt.mp q))]; rfl) (kf (by omega))
theorem w_zge (hc : pm_code kK j pc = some (4, .ifCond .ge o, aux)) (hp : pc + 3 = pc') (kt : 0 ≤ x.toInt → zW n D j Q aux L st ph) (kf : x.toInt < 0 → zW n D j Q pc' L st ph) : zW n D j Q pc L (.int x :: st) ph := by
  subst hp
  by_cases h : 0 ≤ x.toInt
  · exact w_br hc (by show some (bif decide (0 ≤ x) then aux else pc + 3, st) = _; rw [decide_eq_true (z0le.mpr h)]; rfl) (kt h)
  · exact w_br hc (by show some (bif decide (0 ≤ x) then aux else pc + 3, st) = _; rw [decide_eq_false (fun q => h (z0le.mp q))]; rfl) (kf (by omega))
theorem w_zgt (hc : pm_code kK j pc = some (4, .ifCond .gt o, aux)) (hp : pc + 3 = pc') (kt : 0 < x.toInt → zW n D j Q aux L st ph) (kf : x.toInt ≤ 0 → zW n D j Q pc' L st ph) : zW n D j Q pc L (.int x :: st) ph := by
  subst hp
  by_cases h : 0 < x.toInt
  · exact w_br hc (by show some (bif decide (0 < x) then aux else pc + 3, st) = _; rw [decide_eq_true (z0lt.mpr h)]; rfl) (kt h)
  · exact w_br hc (by show some (bif decide (0 < x) then aux else pc + 3, st) = _; rw [decide_eq_false (fun q => h (z0lt.mp q))]; rfl) (kf (by omega))
theorem w_zle (hc : pm_code kK j pc = some (4, .ifCond .le o, aux)) (hp : pc + 3 = pc') (kt : x.toInt ≤ 0 → zW n D j Q aux L st ph) (kf : 0 < x.toInt → zW n D j Q pc' L st ph) : zW n D j Q pc L (.int x :: st) ph := by
  subst hp
  by_cases h : x.toInt ≤ 0
  · exact w_br hc (by show some (bif decide (x ≤ 0) then aux else pc + 3, st) = _; rw [decide_eq_true (x32le.mpr (by have := x0i; omega))]; rfl) (kt h)
  · exact w_br hc (by show some (bif decide (x ≤ 0) then aux else pc + 3, st) = _; rw [decide_eq_false (fun q => h (by have := x32le.mp q; have := x0i; omega))]; rfl) (kf (by omega))
theorem w_zeq (hc : pm_code kK j pc = some (4, .ifCond .eq o, aux)) (hp : pc + 3 = pc') (kt : x.toInt = 0 → zW n D j Q aux L st ph) (kf : x.toInt ≠ 0 → zW n D j Q pc' L st ph) : zW n D j Q pc L (.int x :: st) ph := by
  subst hp
  by_cases h : x.toInt = 0
  · exact w_br hc (by show some (bif decide (x = 0) then aux else pc + 3, st) = _; rw [decide_eq_true (Int32.toInt_inj.mp h)]; rfl) (kt h)
  · exact w_br hc (by show some (bif decide (x = 0) then aux else pc + 3, st) = _; rw [decide_eq_false (fun q => h (by rw [q]; rfl))]; rfl) (kf h)
theorem w_zne (hc : pm_code kK j pc = some (4, .ifCond .ne o, aux)) (hp : pc + 3 = pc') (kt : x.toInt ≠ 0 → zW n D j Q aux L st ph) (kf : x.toInt = 0 → zW n D j Q pc' L st ph) : zW n D j Q pc L (.int x :: st) ph := by
  subst hp
  by_cases h : x.toInt = 0
  · exact w_br hc (by show some (bif decide (x = 0) then pc + 3 else aux, st) = _; rw [decide_eq_true (Int32.toInt_inj.mp h)]; rfl) (kf h)
  · exact w_br hc (by show some (bif decide (x = 0) then pc + 3 else aux, st) = _; rw [decide_eq_false (fun q => h (by rw [q]; rfl))]; rfl) (kt h)
end BR
/-- a truth as an int -/
def zI (b : Bool) : Int32 := bif b then 1 else 0
theorem zI_1 {b : Bool} : (zI b).toInt = if b = true then 1 else 0 := by cases b <;> rfl
theorem zI_t {b : Bool} (h : (zI b).toInt ≠ 0) : b = true := by
  cases b
  · exact absurd rfl h
  · rfl
theorem zI_f {b : Bool} (h : (zI b).toInt = 0) : b = false := by
  cases b
  · rfl
  · exact absurd h (by decide)
theorem w_beq {b : Bool} (hc : pm_code kK j pc = some (4, .ifCond .eq o, aux)) (hp : pc + 3 = pc') (kt : b = false → zW n D j Q aux L st ph) (kf : b = true → zW n D j Q pc' L st ph) : zW n D j Q pc L (.int (zI b) :: st) ph := w_zeq hc hp (fun h => kt (zI_f h)) (fun h => kf (zI_t h))
theorem w_bne {b : Bool} (hc : pm_code kK j pc = some (4, .ifCond .ne o, aux)) (hp : pc + 3 = pc') (kt : b = true → zW n D j Q aux L st ph) (kf : b = false → zW n D j Q pc' L st ph) : zW n D j Q pc L (.int (zI b) :: st) ph := w_zne hc hp (fun h => kt (zI_t h)) (fun h => kf (zI_f h))
/-! the heap -/
theorem w_mem (hc : pm_code kK j pc = some (5, ins, aux)) (h : ∀ m' st' ph' c1 s1, pm_mem kK false (pm_own kK j) ins st ph = some (m', st', ph', c1, s1) → zW n D j Q (pc + m') L st' ph') : zW n D j Q pc L st ph := fun k hk cs ss r hr => by
  cases k with
  | zero => exact hr.elim
  | succ k =>
    rw [pm_Tn] at hr
    unfold pm_step at hr
    simp only [hc] at hr
    cases hm : pm_mem kK false (pm_own kK j) ins st ph with
    | none => simp only [hm] at hr
    | some q =>
      obtain ⟨m', st', ph', c1, s1⟩ := q
      simp only [hm] at hr
      exact h _ _ _ _ _ hm k (by omega) _ _ r hr
theorem w_mem1 {m : Nat} {ph' : pm_H} {c1 s1 : Nat} (hc : pm_code kK j pc = some (5, ins, aux)) (h : pm_mem kK false (pm_own kK j) ins st ph = some (m, st', ph', c1, s1)) (hp : pc + m = pc') (kk : zW n D j Q pc' L st' ph') : zW n D j Q pc L st ph := w_mem hc fun m' st2 ph2 c2 s2 hm => by
  rw [h] at hm
  cases hm
  subst hp
  exact kk
theorem w_gf {v : Value} (hc : pm_code kK j pc = some (5, .getfield fi, aux)) (hl : pm_lnk kK (pm_own kK j) fi = some (6, ci, k, v0)) (hg : zc ph A k = some v) (hp : pc + 3 = pc') (kk : zW n D j Q pc' L (v :: st) ph) : zW n D j Q pc L (.ref A :: st) ph := w_mem hc fun m' st2 ph2 c2 s2 hm => by
  subst hp
  unfold pm_mem at hm
  simp only [hl] at hm
  unfold zc at hg
  cases ha : pm_at ph A with
  | none => rw [ha] at hg; cases hg
  | some c =>
    simp only [ha] at hm hg
    cases c with
    | inl c => simp only at hm; cases hm
    | inr c =>
      obtain ⟨cj, fs⟩ := c
      simp only at hm hg
      cases hb : Nat.beq ci cj with
      | false => rw [hb] at hm; cases hm
      | true =>
        rw [hb] at hm
        simp only [cond_true, hg] at hm
        cases hm
        exact kk
theorem w_pf {v : Value} (hc : pm_code kK j pc = some (5, .putfield fi, aux)) (hl : pm_lnk kK (pm_own kK j) fi = some (6, ci, k, v0)) (hp : pc + 3 = pc') (kk : ∀ ph', zst ph ph' A k v → zW n D j Q pc' L st ph') : zW n D j Q pc L (v :: .ref A :: st) ph := w_mem hc fun m' st2 ph2 c2 s2 hm => by
  subst hp
  unfold pm_mem at hm
  simp only [hl] at hm
  cases ha : pm_at ph A with
  | none => simp only [ha] at hm; cases hm
  | some c =>
    simp only [ha] at hm
    cases c with
    | inl c => simp only at hm; cases hm
    | inr c =>
      obtain ⟨cj, fs⟩ := c
      simp only at hm
      cases hb : (Nat.beq ci cj && (pm_fit (pm_fty kK ci k) v && Nat.blt k fs.length)) with
      | false => rw [hb] at hm; cases hm
      | true =>
        have hlt : k < fs.length := by
          have h2 := (Bool.and_eq_true _ _ |>.mp ((Bool.and_eq_true _ _ |>.mp hb).2)).2
          exact Nat.le_of_ble_eq_true h2
        rw [hb] at hm
        simp only [cond_true] at hm
        cases hm
        refine kk _ (zst_set ha ?_ (fun i hi => ?_) ?_)
        · unfold zc
          rw [xat_self ha]
          exact List.getElem?_set_self hlt
        · unfold zc
          rw [xat_self ha, ha]
          exact List.getElem?_set_ne (Ne.symm hi)
        · unfold zln
          rw [xat_self ha, ha]
theorem zix {α : Type} {l : List α} {x : Int32} (hx : x.toInt = (k : Int)) : pm_ix l x = l[k]? := by
  rw [xix_eq (by omega)]
  rw [show x.toInt.toNat = k by omega]
theorem zupL {α : Type} {l l' : List α} {x : Int32} {y : α} (hx : x.toInt = (k : Int)) (h : pm_up l x y = some l') : k < l.length ∧ l' = l.set k y := by
  unfold pm_up at h
  rw [zix hx] at h
  have e : x.toNatClampNeg = k := by
    show x.toInt.toNat = k
    omega
  cases hq : l[k]? with
  | none => rw [hq] at h; cases h
  | some z =>
    rw [hq] at h
    simp only [e] at h
    cases h
    exact ⟨(List.getElem?_eq_some_iff.mp hq).1, rfl⟩
theorem w_ialk {x y : Int32} (hc : pm_code kK j pc = some (5, .iaload, aux)) (hg : zc ph A k = some (.int y)) (hx : x.toInt = (k : Int)) (hp : pc + 1 = pc') (kk : zW n D j Q pc' L (.int y :: st) ph) : zW n D j Q pc L (.int x :: .ref A :: st) ph := w_mem hc fun m' st2 ph2 c2 s2 hm => by
  subst hp
  unfold pm_mem at hm
  unfold zc at hg
  cases ha : pm_at ph A with
  | none => rw [ha] at hg; cases hg
  | some c =>
    simp only [ha] at hm hg
    match c, hm, hg with
    | .inl (0, .inl l), hm, hg =>
      simp only [zix hx] at hm
      simp only at hg
      cases hq : l[k]? with
      | none => rw [hq] at hg; cases hg
      | some z => rw [hq] at hg hm; cases hg; cases hm; exact kk
theorem w_ial {x : Int32} (hc : pm_code kK j pc = some (5, .iaload, aux)) (hA : Nat.blt A 1048576 = true) (hx : x.toInt = (k : Int)) (hp : pc + 1 = pc') (kk : ∀ y, zc ph A k = some (.int y) → zW n D j Q pc' L (.int y :: st) ph) : zW n D j Q pc L (.int x :: .ref A :: st) ph := w_mem hc fun m' st2 ph2 c2 s2 hm => by
  subst hp
  unfold pm_mem at hm
  cases ha : pm_at ph A with
  | none =>
    simp only [ha] at hm
    unfold pm_rat at hm
    rw [hA] at hm
    simp only [cond_true] at hm
    cases hm
  | some c =>
    simp only [ha] at hm
    match c, hm, ha with
    | .inl (0, .inl l), hm, ha =>
      simp only [zix hx] at hm
      cases hq : l[k]? with
      | none => rw [hq] at hm; cases hm
      | some z =>
        rw [hq] at hm
        cases hm
        exact kk z (by unfold zc; rw [ha]; show (l[k]?).map Value.int = _; rw [hq]; rfl)
theorem w_balk {x y : Int32} (hc : pm_code kK j pc = some (5, .baload, aux)) (hg : zc ph A k = some (.int y)) (hx : x.toInt = (k : Int)) (hp : pc + 1 = pc') (kk : zW n D j Q pc' L (.int y :: st) ph) : zW n D j Q pc L (.int x :: .ref A :: st) ph := w_mem hc fun m' st2 ph2 c2 s2 hm => by
  subst hp
  unfold pm_mem at hm
  unfold zc at hg
  cases ha : pm_at ph A with
  | none => rw [ha] at hg; cases hg
  | some c =>
    simp only [ha] at hm hg
    match c, hm, hg with
    | .inl (1, .inl l), hm, hg =>
      simp only [zix hx] at hm
      simp only at hg
      cases hq : l[k]? with
      | none => rw [hq] at hg; cases hg
      | some z => rw [hq] at hg hm; cases hg; cases hm; exact kk
theorem w_lalk {x : Int32} {y : Int64} (hc : pm_code kK j pc = some (5, .laload, aux)) (hg : zc ph A k = some (.long y)) (hx : x.toInt = (k : Int)) (hp : pc + 1 = pc') (kk : zW n D j Q pc' L (.long y :: st) ph) : zW n D j Q pc L (.int x :: .ref A :: st) ph := w_mem hc fun m' st2 ph2 c2 s2 hm => by
  subst hp
  unfold pm_mem at hm
  unfold zc at hg
  cases ha : pm_at ph A with
  | none => rw [ha] at hg; cases hg
  | some c =>
    simp only [ha] at hm hg
    match c, hm, hg with
    | .inl (2, .inr (.inl l)), hm, hg =>
      simp only [zix hx] at hm
      simp only at hg
      cases hq : l[k]? with
      | none => rw [hq] at hg; cases hg
      | some z => rw [hq] at hg hm; cases hg; cases hm; exact kk
theorem w_lal {x : Int32} (hc : pm_code kK j pc = some (5, .laload, aux)) (hx : x.toInt = (k : Int)) (hp : pc + 1 = pc') (kk : ∀ y, zc ph A k = some (.long y) → zW n D j Q pc' L (.long y :: st) ph) : zW n D j Q pc L (.int x :: .ref A :: st) ph := w_mem hc fun m' st2 ph2 c2 s2 hm => by
  subst hp
  unfold pm_mem at hm
  cases ha : pm_at ph A with
  | none => simp only [ha] at hm; cases hm
  | some c =>
    simp only [ha] at hm
    match c, hm, ha with
    | .inl (2, .inr (.inl l)), hm, ha =>
      simp only [zix hx] at hm
      cases hq : l[k]? with
      | none => rw [hq] at hm; cases hm
      | some z =>
        rw [hq] at hm
        cases hm
        exact kk z (by unfold zc; rw [ha]; show (l[k]?).map Value.long = _; rw [hq]; rfl)
theorem w_aalk {x : Int32} {v : Value} (hc : pm_code kK j pc = some (5, .aaload, aux)) (hg : zc ph A k = some v) (hx : x.toInt = (k : Int)) (hp : pc + 1 = pc') (kk : zW n D j Q pc' L (v :: st) ph) : zW n D j Q pc L (.int x :: .ref A :: st) ph := w_mem hc fun m' st2 ph2 c2 s2 hm => by
  subst hp
  unfold pm_mem at hm
  unfold zc at hg
  cases ha : pm_at ph A with
  | none => rw [ha] at hg; cases hg
  | some c =>
    simp only [ha] at hm hg
    match c, hm, hg with
    | .inl (4, .inr (.inr l)), hm, hg =>
      simp only [zix hx] at hm
      simp only at hg
      cases hq : l[k]? with
      | none => rw [hq] at hg; cases hg
      | some z => rw [hq] at hg hm; cases hg; cases hm; exact kk
theorem w_ias {x y : Int32} (hc : pm_code kK j pc = some (5, .iastore, aux)) (hx : x.toInt = (k : Int)) (hp : pc + 1 = pc') (kk : ∀ ph', zst ph ph' A k (.int y) → zW n D j Q pc' L st ph') : zW n D j Q pc L (.int y :: .int x :: .ref A :: st) ph := w_mem hc fun m' st2 ph2 c2 s2 hm => by
  subst hp
  unfold pm_mem at hm
  cases ha : pm_at ph A with
  | none => simp only [ha] at hm; cases hm
  | some c =>
    simp only [ha] at hm
    match c, hm, ha with
    | .inl (0, .inl l), hm, ha =>
      simp only at hm
      cases hq : pm_up l x y with
      | none => simp only [hq] at hm; cases hm
      | some l' =>
        simp only [hq] at hm
        cases hm
        obtain ⟨hlt, rfl⟩ := zupL hx hq
        refine kk _ (zst_set ha ?_ (fun i hi => ?_) ?_)
        · unfold zc
          rw [xat_self ha]
          show ((l.set k y)[k]?).map Value.int = _
          rw [List.getElem?_set_self hlt]
          rfl
        · unfold zc
          rw [xat_self ha, ha]
          show ((l.set k y)[i]?).map Value.int = (l[i]?).map Value.int
          rw [List.getElem?_set_ne (Ne.symm hi)]
        · unfold zln
          rw [xat_self ha, ha]
          show some (l.set k y).length = some l.length
          rw [List.length_set]
theorem w_bas {x y : Int32} (hc : pm_code kK j pc = some (5, .bastore, aux)) (hx : x.toInt = (k : Int)) (hp : pc + 1 = pc') (kk : ∀ ph', zst ph ph' A k (.int (y &&& 1)) → zW n D j Q pc' L st ph') : zW n D j Q pc L (.int y :: .int x :: .ref A :: st) ph := w_mem hc fun m' st2 ph2 c2 s2 hm => by
  subst hp
  unfold pm_mem at hm
  cases ha : pm_at ph A with
  | none => simp only [ha] at hm; cases hm
  | some c =>
    simp only [ha] at hm
    match c, hm, ha with
    | .inl (1, .inl l), hm, ha =>
      simp only at hm
      cases hq : pm_up l x (y &&& 1) with
      | none => simp only [hq] at hm; cases hm
      | some l' =>
        simp only [hq] at hm
        cases hm
        obtain ⟨hlt, rfl⟩ := zupL hx hq
        refine kk _ (zst_set ha ?_ (fun i hi => ?_) ?_)
        · unfold zc
          rw [xat_self ha]
          show ((l.set k (y &&& 1))[k]?).map Value.int = _
          rw [List.getElem?_set_self hlt]
          rfl
        · unfold zc
          rw [xat_self ha, ha]
          show ((l.set k (y &&& 1))[i]?).map Value.int = (l[i]?).map Value.int
          rw [List.getElem?_set_ne (Ne.symm hi)]
        · unfold zln
          rw [xat_self ha, ha]
          show some (l.set k (y &&& 1)).length = some l.length
          rw [List.length_set]
theorem w_las {x : Int32} {y : Int64} (hc : pm_code kK j pc = some (5, .lastore, aux)) (hx : x.toInt = (k : Int)) (hp : pc + 1 = pc') (kk : ∀ ph', zst ph ph' A k (.long y) → zW n D j Q pc' L st ph') : zW n D j Q pc L (.long y :: .int x :: .ref A :: st) ph := w_mem hc fun m' st2 ph2 c2 s2 hm => by
  subst hp
  unfold pm_mem at hm
  cases ha : pm_at ph A with
  | none => simp only [ha] at hm; cases hm
  | some c =>
    simp only [ha] at hm
    match c, hm, ha with
    | .inl (2, .inr (.inl l)), hm, ha =>
      simp only at hm
      cases hq : pm_up l x y with
      | none => simp only [hq] at hm; cases hm
      | some l' =>
        simp only [hq] at hm
        cases hm
        obtain ⟨hlt, rfl⟩ := zupL hx hq
        refine kk _ (zst_set ha ?_ (fun i hi => ?_) ?_)
        · unfold zc
          rw [xat_self ha]
          show ((l.set k y)[k]?).map Value.long = _
          rw [List.getElem?_set_self hlt]
          rfl
        · unfold zc
          rw [xat_self ha, ha]
          show ((l.set k y)[i]?).map Value.long = (l[i]?).map Value.long
          rw [List.getElem?_set_ne (Ne.symm hi)]
        · unfold zln
          rw [xat_self ha, ha]
          show some (l.set k y).length = some l.length
          rw [List.length_set]
theorem w_aln {m : Nat} (hc : pm_code kK j pc = some (5, .arraylength, aux)) (hg : zln ph A = some m) (hp : pc + 1 = pc') (kk : zW n D j Q pc' L (.int (Int32.ofNat m) :: st) ph) : zW n D j Q pc L (.ref A :: st) ph := w_mem hc fun m' st2 ph2 c2 s2 hm => by
  subst hp
  unfold pm_mem at hm
  unfold zln at hg
  cases ha : pm_at ph A with
  | none => simp only [ha] at hg; cases hg
  | some c =>
    simp only [ha] at hm hg
    match c, hm, hg with
    | .inl (t, .inl l), hm, hg =>
      simp only at hm hg
      cases hg
      cases hb : Nat.ble t 4 with
      | false => rw [hb] at hm; cases hm
      | true => rw [hb] at hm; cases hm; exact kk
    | .inl (t, .inr (.inl l)), hm, hg =>
      simp only at hm hg
      cases hg
      cases hb : Nat.ble t 4 with
      | false => rw [hb] at hm; cases hm
      | true => rw [hb] at hm; cases hm; exact kk
    | .inl (t, .inr (.inr l)), hm, hg =>
      simp only at hm hg
      cases hg
      cases hb : Nat.ble t 4 with
      | false => rw [hb] at hm; cases hm
      | true => rw [hb] at hm; cases hm; exact kk
/-- eight ints are copied from one array to another -/
theorem w_ac8 {B a9 b9 : Nat} {r : List Value} (hc : pm_code kK j pc = some (5, .invokestatic fi, aux)) (hl : pm_lnk kK (pm_own kK j) fi = some (5, a9, b9, v0)) (hAn : zln ph A = some 8) (hBn : zln ph B = some 8) (hp : pc + 3 = pc') (kk : ∀ ph', (∀ i, i < 8 → zc ph' B i = zc ph A i) → (∀ b c, b ≠ B → zc ph' b c = zc ph b c) → (∀ b, zln ph' b = zln ph b) → zW n D j Q pc' L r ph') : zW n D j Q pc L (.int ((Int8.ofInt 8).toInt32) :: .int (Int32.ofInt 0) :: .ref B :: .int (Int32.ofInt 0) :: .ref A :: r) ph := w_mem hc fun m' st2 ph2 c2 s2 hm => by
  subst hp
  unfold pm_mem at hm
  unfold zln at hAn hBn
  simp only [hl] at hm
  cases ha : pm_at ph A with
  | none => simp only [ha] at hm; cases hm
  | some c =>
    cases hb : pm_at ph B with
    | none => simp only [ha, hb] at hm; cases hm
    | some c9 =>
      rw [ha] at hAn
      rw [hb] at hBn
      simp only [ha, hb] at hm
      match c, c9, hm, ha, hb, hAn, hBn with
      | .inl (0, .inl l), .inl (0, .inl l2), hm, ha, hb, hAn, hBn =>
        have h8 : l.length = 8 := Option.some.inj hAn
        have h9 : l2.length = 8 := Option.some.inj hBn
        simp only at hm
        have n0 : (Int32.ofInt 0).toNatClampNeg = 0 := by decide
        have n8 : ((Int8.ofInt 8).toInt32).toNatClampNeg = 8 := by decide
        rw [n0, n8] at hm
        have ec : pm_cpy l l2 0 0 8 = l := by
          unfold pm_cpy
          rw [List.take_zero, List.drop_zero, ← h8, List.take_length, show 0 + l.length = l2.length by omega, List.drop_length]
          simp
        rw [ec] at hm
        have hm := zbif hm
        cases hm
        refine kk _ (fun i hi => ?_) (fun b c hne => ?_) (fun b => ?_)
        · unfold zc
          rw [xat_self hb, ha]
        · unfold zc
          rw [xat_ne hne]
        · by_cases e : b = B
          · subst e
            unfold zln
            rw [xat_self hb, hb]
            show some l.length = some l2.length
            rw [h8, h9]
          · unfold zln
            rw [xat_ne e]
/-! calls and ends -/
theorem w_inv (hc : pm_code kK j pc = some (6, ins, aux)) (h : ∀ j' as r, pm_inv kK (pm_own kK j) ins st ph = some (j', as, r) → ∃ P : Option Value → pm_H → Prop, zM j' as ph P ∧ ∀ v ph', P v ph' → zW n D j Q (pc + 3) L (v.toList ++ r) ph') : zW n D j Q pc L st ph := fun k hk cs ss r hr => by
  cases k with
  | zero => exact hr.elim
  | succ k =>
    rw [pm_Tn] at hr
    unfold pm_step at hr
    simp only [hc] at hr
    cases hm : pm_inv kK (pm_own kK j) ins st ph with
    | none => simp only [hm] at hr
    | some q =>
      obtain ⟨j', as, r2⟩ := q
      simp only [hm] at hr
      obtain ⟨v, ph', c1, s1, h1, h2⟩ := hr
      obtain ⟨P, hz, kk⟩ := h _ _ _ hm
      exact kk v ph' (hz D _ h1) k (by omega) _ _ r h2
theorem w_cs {j' : Nat} {P : Option Value → pm_H → Prop} (hc : pm_code kK j pc = some (6, .invokestatic fi, aux)) (hl : pm_lnk kK (pm_own kK j) fi = some (1, j', na, v0)) (ha : (st.take na).reverse = as) (hd : st.drop na = r) (hp : pc + 3 = pc') (hz : zM j' as ph P) (kk : ∀ v ph', P v ph' → zW n D j Q pc' L (v.toList ++ r) ph') : zW n D j Q pc L st ph := w_inv hc fun j2 as2 r2 hi => by
  subst hp ha hd
  unfold pm_inv at hi
  simp only [hl] at hi
  generalize hg : (Nat.ble na st.length && Nat.ble ((st.drop na).map fun v => v.category).sum 8) = bb at hi
  cases bb with
  | false => cases hi
  | true => cases hi; exact ⟨P, hz, kk⟩
theorem w_cv {j' : Nat} {P : Option Value → pm_H → Prop} (hc : pm_code kK j pc = some (6, .invokevirtual fi, aux)) (hl : pm_lnk kK (pm_own kK j) fi = some (2, j', na, .ref ci)) (hd : st.drop na = .ref A :: r) (ha : .ref A :: (st.take na).reverse = as) (hp : pc + 3 = pc') (hz : zM j' as ph P) (kk : ∀ v ph', P v ph' → zW n D j Q pc' L (v.toList ++ r) ph') : zW n D j Q pc L st ph := w_inv hc fun j2 as2 r2 hi => by
  subst hp ha
  unfold pm_inv at hi
  simp only [hl, hd] at hi
  cases hA : pm_at ph A with
  | none => simp only [hA] at hi; cases hi
  | some c =>
    simp only [hA] at hi
    cases c with
    | inl c => simp only at hi; cases hi
    | inr c =>
      obtain ⟨cj, fs⟩ := c
      simp only at hi
      generalize hg : (Nat.beq ci cj && Nat.ble (r.map fun v => v.category).sum 8) = bb at hi
      cases bb with
      | false => cases hi
      | true => cases hi; exact ⟨P, hz, kk⟩
theorem w_ret {v : Option Value} (hc : pm_code kK j pc = some (7, ins, aux)) (h : ∀ u, pm_ret (pm_sig kK j).2.2 ins st = some u → u = v) (kk : Q v ph) : zW n D j Q pc L st ph := fun k hk cs ss r hr => by
  cases k with
  | zero => exact hr.elim
  | succ k =>
    rw [pm_Tn] at hr
    unfold pm_step at hr
    simp only [hc] at hr
    cases hm : pm_ret (pm_sig kK j).2.2 ins st with
    | none => simp only [hm] at hr
    | some u =>
      simp only [hm] at hr
      have := h u hm
      subst this
      subst hr
      exact kk
end ZW
theorem zr_v {v : Option Value} {kd : Nat} {ins : Instr} {st : List Value} (h : pm_ret kd ins st = some v) : ∀ w, pm_ret kd ins st = some w → w = v := fun w hw => by
  rw [h] at hw
  exact (Option.some.inj hw).symm
theorem zr_z {x : Int32} : ∀ w, pm_ret 2 .ireturn [.int x] = some w → w = some (.int x) := fun w hw => by
  have h : (bif Nat.beq 2 1 then some (some (Value.int x)) else bif Nat.beq 2 2 && (bif decide (x = 0) then true else decide (x = 1)) then some (some (Value.int x)) else bif Nat.beq 2 5 && decide (x.toUInt32.toUInt16.toUInt32.toInt32 = x) then some (some (Value.int x)) else bif Nat.beq 2 6 && decide (x.toInt8.toInt32 = x) then some (some (Value.int x)) else none) = some w := hw
  have e1 : Nat.beq 2 1 = false := rfl
  have e2 : Nat.beq 2 2 = true := rfl
  have e3 : Nat.beq 2 5 = false := rfl
  have e4 : Nat.beq 2 6 = false := rfl
  rw [e1, e2, e3, e4] at h
  simp only [Bool.false_and, Bool.true_and, cond_false] at h
  generalize hg : (bif decide (x = 0) then true else decide (x = 1)) = bb at h
  cases bb with
  | false => cases h
  | true => exact (Option.some.inj h).symm
/-! frames -/
def zFr (A : List Nat) (F : List (Nat × Nat)) (ph ph' : pm_H) : Prop := (∀ b c, b ∉ A → (b, c) ∉ F → zc ph' b c = zc ph b c) ∧ ∀ b, zln ph' b = zln ph b
theorem zFr_refl {A : List Nat} {F : List (Nat × Nat)} {p : pm_H} : zFr A F p p := ⟨fun _ _ _ _ => rfl, fun _ => rfl⟩
theorem zFr_trans {A : List Nat} {F : List (Nat × Nat)} {p q r : pm_H} (h : zFr A F p q) (g : zFr A F q r) : zFr A F p r := ⟨fun b c h1 h2 => (g.1 b c h1 h2).trans (h.1 b c h1 h2), fun b => (g.2 b).trans (h.2 b)⟩
theorem zFr_st {A : List Nat} {F : List (Nat × Nat)} {p q : pm_H} {a k : Nat} {v : Value} (u : zst p q a k v) (h : a ∈ A ∨ (a, k) ∈ F) : zFr A F p q := ⟨fun b c h1 h2 => u.2.1 b c (fun e => by
  obtain ⟨rfl, rfl⟩ := e
  rcases h with h | h
  · exact h1 h
  · exact h2 h), u.2.2⟩
theorem zFr_add {A : List Nat} {F : List (Nat × Nat)} {p q r : pm_H} {a k : Nat} {v : Value} (f : zFr A F p q) (u : zst q r a k v) (h : a ∈ A ∨ (a, k) ∈ F) : zFr A F p r := zFr_trans f (zFr_st u h)
theorem zFr_mono {A A' : List Nat} {F F' : List (Nat × Nat)} {p q : pm_H} (f : zFr A F p q) (hA : ∀ a ∈ A, a ∈ A') (hF : ∀ x ∈ F, x ∈ F') : zFr A' F' p q := ⟨fun b c h1 h2 => f.1 b c (fun h => h1 (hA _ h)) (fun h => h2 (hF _ h)), f.2⟩
section ZW2
variable {n D j pc pc' aux A : Nat} {Q : Option Value → pm_H → Prop} {L : List (Option Value)} {st : List Value} {ph : pm_H}
theorem w_ialn {x : Int32} (hc : pm_code kK j pc = some (5, .iaload, aux)) (hA : Nat.blt A 1048576 = true) (hx : x.toInt < 0) : zW n D j Q pc L (.int x :: .ref A :: st) ph := w_mem hc fun m' st2 ph2 c2 s2 hm => by
  have hd : decide (x < 0) = true := decide_eq_true (Int32.lt_iff_toInt_lt.mpr (by have h0 : (0 : Int32).toInt = 0 := rfl; omega))
  unfold pm_mem at hm
  cases ha : pm_at ph A with
  | none =>
    simp only [ha] at hm
    unfold pm_rat at hm
    rw [hA] at hm
    simp only [cond_true] at hm
    cases hm
  | some c =>
    simp only [ha] at hm
    match c, hm with
    | .inl (0, .inl l), hm =>
      unfold pm_ix at hm
      simp only [hd, cond_true] at hm
      cases hm
theorem zts_d {d lo hi : Int} {offs : Array Int} {aux pc t : Nat} {x : Int32} {r : List Value} (h : x.toInt < lo ∨ hi < x.toInt) (ht : pm_tgt pc d = some t) : pm_br (.tableswitch d lo hi offs) aux pc (.int x :: r) = some (t, r) := by
  have e : (decide (x.toInt < lo) || decide (hi < x.toInt)) = true := by
    rcases h with h | h
    · rw [decide_eq_true h]; rfl
    · rw [decide_eq_true h]; exact Bool.or_true _
  unfold pm_br
  simp only [e, cond_true, ht]
theorem zts_i {d lo hi o : Int} {offs : Array Int} {aux pc t k : Nat} {x : Int32} {r : List Value} (h : x.toInt = lo + (k : Int)) (hh : lo + (k : Int) ≤ hi) (ho : offs[k]? = some o) (ht : pm_tgt pc o = some t) : pm_br (.tableswitch d lo hi offs) aux pc (.int x :: r) = some (t, r) := by
  have e : (decide (x.toInt < lo) || decide (hi < x.toInt)) = false := by
    rw [decide_eq_false (by omega), decide_eq_false (by omega)]; rfl
  have e2 : (x.toInt - lo).toNat = k := by omega
  unfold pm_br
  simp only [e, cond_false, e2, ho, ht]
end ZW2
end
section
/-! references that stand fast, arrays' lengths; printed by wip/z/z_a_stat.py -/
def zstatL : List (Nat × Nat × Nat) := [(0, 0, 1), (0, 1, 3), (0, 2, 5), (0, 3, 10), (0, 4, 25), (0, 5, 31), (0, 6, 37), (0, 7, 43), (0, 8, 154), (0, 9, 157), (0, 10, 160), (0, 11, 164), (0, 12, 167), (1, 0, 2), (3, 0, 4), (5, 5, 6), (5, 6, 7), (5, 7, 8), (5, 8, 9), (10, 0, 5), (10, 3, 21), (10, 5, 22), (10, 6, 23), (10, 7, 24), (11, 0, 12), (11, 2, 13), (11, 4, 14), (11, 8, 15), (16, 0, 17), (16, 2, 18), (16, 4, 19), (16, 8, 20), (25, 3, 26), (25, 4, 27), (25, 5, 28), (25, 6, 29), (25, 7, 30), (31, 3, 32), (31, 4, 33), (31, 5, 34), (31, 6, 35), (31, 7, 36), (37, 3, 38), (37, 4, 39), (37, 5, 40), (37, 6, 41), (37, 7, 42), (43, 0, 44), (43, 3, 135), (44, 0, 45), (44, 1, 51), (44, 2, 57), (44, 3, 63), (44, 4, 69), (44, 5, 75), (44, 6, 81), (44, 7, 87), (44, 8, 93), (44, 9, 99), (44, 10, 105), (44, 11, 111), (44, 12, 117), (44, 13, 123), (44, 14, 129), (45, 3, 46), (45, 4, 47), (45, 5, 48), (45, 6, 49), (45, 7, 50), (51, 3, 52), (51, 4, 53), (51, 5, 54), (51, 6, 55), (51, 7, 56), (57, 3, 58), (57, 4, 59), (57, 5, 60), (57, 6, 61), (57, 7, 62), (63, 3, 64), (63, 4, 65), (63, 5, 66), (63, 6, 67), (63, 7, 68), (69, 3, 70), (69, 4, 71), (69, 5, 72), (69, 6, 73), (69, 7, 74), (75, 3, 76), (75, 4, 77), (75, 5, 78), (75, 6, 79), (75, 7, 80), (81, 3, 82), (81, 4, 83), (81, 5, 84), (81, 6, 85), (81, 7, 86), (87, 3, 88), (87, 4, 89), (87, 5, 90), (87, 6, 91), (87, 7, 92), (93, 3, 94), (93, 4, 95), (93, 5, 96), (93, 6, 97), (93, 7, 98), (99, 3, 100), (99, 4, 101), (99, 5, 102), (99, 6, 103), (99, 7, 104), (105, 3, 106), (105, 4, 107), (105, 5, 108), (105, 6, 109), (105, 7, 110), (111, 3, 112), (111, 4, 113), (111, 5, 114), (111, 6, 115), (111, 7, 116), (117, 3, 118), (117, 4, 119), (117, 5, 120), (117, 6, 121), (117, 7, 122), (123, 3, 124), (123, 4, 125), (123, 5, 126), (123, 6, 127), (123, 7, 128), (129, 3, 130), (129, 4, 131), (129, 5, 132), (129, 6, 133), (129, 7, 134), (135, 0, 136), (135, 1, 142), (135, 2, 148), (136, 3, 137), (136, 4, 138), (136, 5, 139), (136, 6, 140), (136, 7, 141), (142, 3, 143), (142, 4, 144), (142, 5, 145), (142, 6, 146), (142, 7, 147), (148, 3, 149), (148, 4, 150), (148, 5, 151), (148, 6, 152), (148, 7, 153), (154, 0, 155), (154, 1, 156), (157, 0, 158), (157, 1, 159), (160, 0, 161), (160, 1, 162), (160, 2, 163), (164, 0, 165), (164, 1, 166), (167, 0, 168), (167, 2, 169), (170, 2, 171), (170, 9, 172), (170, 10, 173), (170, 11, 174), (170, 12, 175), (170, 13, 176), (170, 18, 177), (170, 19, 178), (170, 21, 179), (170, 22, 180), (170, 25, 181), (170, 26, 182), (170, 28, 183), (170, 29, 184), (170, 30, 185), (170, 31, 186), (170, 32, 187), (170, 33, 188), (170, 35, 189), (170, 36, 190), (170, 37, 191), (170, 38, 192), (170, 40, 193), (170, 41, 194), (170, 42, 195), (170, 43, 196), (170, 44, 197), (170, 46, 198), (170, 47, 199), (170, 48, 200)]
def zlenL : List (Nat × Nat) := [(2, 80), (4, 49), (6, 49), (7, 49), (8, 392), (9, 343), (12, 40), (13, 40), (14, 5), (15, 40), (17, 40), (18, 40), (19, 5), (20, 40), (21, 20), (22, 8), (23, 8), (24, 8), (26, 8), (27, 8), (28, 8), (29, 8), (30, 8), (32, 8), (33, 8), (34, 8), (35, 8), (36, 8), (38, 8), (39, 8), (40, 8), (41, 8), (42, 8), (44, 15), (46, 8), (47, 8), (48, 8), (49, 8), (50, 8), (52, 8), (53, 8), (54, 8), (55, 8), (56, 8), (58, 8), (59, 8), (60, 8), (61, 8), (62, 8), (64, 8), (65, 8), (66, 8), (67, 8), (68, 8), (70, 8), (71, 8), (72, 8), (73, 8), (74, 8), (76, 8), (77, 8), (78, 8), (79, 8), (80, 8), (82, 8), (83, 8), (84, 8), (85, 8), (86, 8), (88, 8), (89, 8), (90, 8), (91, 8), (92, 8), (94, 8), (95, 8), (96, 8), (97, 8), (98, 8), (100, 8), (101, 8), (102, 8), (103, 8), (104, 8), (106, 8), (107, 8), (108, 8), (109, 8), (110, 8), (112, 8), (113, 8), (114, 8), (115, 8), (116, 8), (118, 8), (119, 8), (120, 8), (121, 8), (122, 8), (124, 8), (125, 8), (126, 8), (127, 8), (128, 8), (130, 8), (131, 8), (132, 8), (133, 8), (134, 8), (135, 3), (137, 8), (138, 8), (139, 8), (140, 8), (141, 8), (143, 8), (144, 8), (145, 8), (146, 8), (147, 8), (149, 8), (150, 8), (151, 8), (152, 8), (153, 8), (155, 32), (156, 4), (158, 30), (159, 90), (161, 49), (162, 49), (163, 49), (165, 64), (166, 2304), (168, 9), (169, 61), (171, 53), (172, 49), (173, 20), (174, 41), (175, 41), (176, 80), (177, 49), (178, 24), (179, 80), (180, 80), (181, 80), (182, 8), (183, 656), (184, 8), (185, 60), (186, 60), (187, 60), (188, 60), (189, 8), (190, 64), (191, 2304), (192, 49), (193, 10), (194, 10), (195, 10), (196, 610), (197, 80), (198, 3), (199, 3), (200, 123)]
def zlk : List (Nat × Nat × Nat) → Nat → Nat → Option Nat
  | [], _, _ => none
  | e :: r, a, k => bif Nat.beq e.1 a && Nat.beq e.2.1 k then some e.2.2 else zlk r a k
def zll : List (Nat × Nat) → Nat → Option Nat
  | [], _ => none
  | e :: r, a => bif Nat.beq e.1 a then some e.2 else zll r a
def zSh (ph : pm_H) : Prop := (∀ a k b, zlk zstatL a k = some b → zc ph a k = some (.ref b)) ∧ ∀ a n, zll zlenL a = some n → zln ph a = some n
theorem zsg {ph : pm_H} (hS : zSh ph) {a k b : Nat} (h : zlk zstatL a k = some b) : zc ph a k = some (.ref b) := hS.1 a k b h
theorem zsl {ph : pm_H} (hS : zSh ph) {a n : Nat} (h : zll zlenL a = some n) : zln ph a = some n := hS.2 a n h
theorem zlk_mem : ∀ {l : List (Nat × Nat × Nat)} {a k b : Nat}, zlk l a k = some b → (a, k, b) ∈ l := by
  intro l
  induction l with
  | nil => intro a k b h; cases h
  | cons e r ih =>
    intro a k b h
    unfold zlk at h
    cases hb : (Nat.beq e.1 a && Nat.beq e.2.1 k) with
    | true =>
      rw [hb] at h
      obtain ⟨h1, h2⟩ := (Bool.and_eq_true _ _).mp hb
      have e1 := Nat.eq_of_beq_eq_true h1
      have e2 := Nat.eq_of_beq_eq_true h2
      have e3 : e.2.2 = b := Option.some.inj h
      subst e1 e2 e3
      exact List.mem_cons_self
    | false =>
      rw [hb] at h
      exact List.mem_cons_of_mem _ (ih h)
def zok (A : List Nat) (F : List (Nat × Nat)) : Bool := zstatL.all fun e => !(A.elem e.1) && !(F.elem (e.1, e.2.1))
theorem zSh_F {A : List Nat} {F : List (Nat × Nat)} {p q : pm_H} (f : zFr A F p q) (h : zok A F = true) (hS : zSh p) : zSh q := by
  refine ⟨fun a k b hb => ?_, fun a n hn => (f.2 a).trans (hS.2 a n hn)⟩
  have h1 := List.all_eq_true.mp h _ (zlk_mem hb)
  simp only [Bool.and_eq_true, Bool.not_eq_true'] at h1
  refine (f.1 a k (fun q => ?_) (fun q => ?_)).trans (hS.1 a k b hb)
  · rw [List.elem_eq_true_of_mem q] at h1
    exact absurd h1.1 (by decide)
  · rw [List.elem_eq_true_of_mem q] at h1
    exact absurd h1.2 (by decide)
theorem zSh_st {p q : pm_H} {a k : Nat} {v : Value} (u : zst p q a k v) (h : zlk zstatL a k = none) (hS : zSh p) : zSh q := ⟨fun b i r hb => (u.2.1 b i (fun e => by
  obtain ⟨rfl, rfl⟩ := e
  rw [h] at hb
  cases hb)).trans (hS.1 b i r hb), fun b n hn => (u.2.2 b).trans (hS.2 b n hn)⟩
theorem zmaxI {x y z : Int32} (e : (if x < y then y else x) = z) : (x.toInt < y.toInt ∧ z.toInt = y.toInt) ∨ (y.toInt ≤ x.toInt ∧ z.toInt = x.toInt) := by
  by_cases h : x < y
  · rw [if_pos h] at e
    exact Or.inl ⟨x32lt.mp h, by rw [e]⟩
  · rw [if_neg h] at e
    exact Or.inr ⟨Int.not_lt.mp (fun q => h (x32lt.mpr q)), by rw [e]⟩
theorem zminI {x y z : Int32} (e : (if y < x then y else x) = z) : (y.toInt < x.toInt ∧ z.toInt = y.toInt) ∨ (x.toInt ≤ y.toInt ∧ z.toInt = x.toInt) := by
  by_cases h : y < x
  · rw [if_pos h] at e
    exact Or.inl ⟨x32lt.mp h, by rw [e]⟩
  · rw [if_neg h] at e
    exact Or.inr ⟨Int.not_lt.mp (fun q => h (x32lt.mpr q)), by rw [e]⟩
theorem zabsI {x z : Int32} (e : (if 0 ≤ x then x else 0 - x) = z) (h : -2147483648 < x.toInt := by omega) : (0 ≤ x.toInt ∧ z.toInt = x.toInt) ∨ (x.toInt < 0 ∧ z.toInt = - x.toInt) := by
  have h9 := x32_hi x
  by_cases h0 : 0 ≤ x
  · rw [if_pos h0] at e
    exact Or.inl ⟨z0le.mp h0, by rw [e]⟩
  · rw [if_neg h0] at e
    have h1 : x.toInt < 0 := Int.not_le.mp (fun q => h0 (z0le.mpr q))
    have z0 : (0 : Int32).toInt = 0 := rfl
    have h2 := ti_sub (x := 0) (y := x) (by omega) (by omega)
    exact Or.inr ⟨h1, by rw [← e, h2]; omega⟩
theorem zI_and (b : Bool) : zI b &&& 1 = zI b := by cases b <;> rfl
theorem zvB {a b : Bool} (h : a = b) : (some (Value.int (zI a)) : Option Value) = some (Value.int (zI b)) := by rw [h]
theorem zI_inj {a b : Bool} (h : zI a = zI b) : a = b := by cases a <;> cases b <;> first | rfl | exact absurd h (by decide)
theorem zs_0_0 : zlk zstatL 0 0 = some 1 := by decide +kernel
theorem zs_0_1 : zlk zstatL 0 1 = some 3 := by decide +kernel
theorem zs_0_2 : zlk zstatL 0 2 = some 5 := by decide +kernel
theorem zs_0_3 : zlk zstatL 0 3 = some 10 := by decide +kernel
theorem zs_0_4 : zlk zstatL 0 4 = some 25 := by decide +kernel
theorem zs_0_5 : zlk zstatL 0 5 = some 31 := by decide +kernel
theorem zs_0_6 : zlk zstatL 0 6 = some 37 := by decide +kernel
theorem zs_0_7 : zlk zstatL 0 7 = some 43 := by decide +kernel
theorem zs_0_8 : zlk zstatL 0 8 = some 154 := by decide +kernel
theorem zs_0_9 : zlk zstatL 0 9 = some 157 := by decide +kernel
theorem zs_0_10 : zlk zstatL 0 10 = some 160 := by decide +kernel
theorem zs_0_11 : zlk zstatL 0 11 = some 164 := by decide +kernel
theorem zs_0_12 : zlk zstatL 0 12 = some 167 := by decide +kernel
theorem zs_1_0 : zlk zstatL 1 0 = some 2 := by decide +kernel
theorem zs_3_0 : zlk zstatL 3 0 = some 4 := by decide +kernel
theorem zs_5_5 : zlk zstatL 5 5 = some 6 := by decide +kernel
theorem zs_5_6 : zlk zstatL 5 6 = some 7 := by decide +kernel
theorem zs_5_7 : zlk zstatL 5 7 = some 8 := by decide +kernel
theorem zs_5_8 : zlk zstatL 5 8 = some 9 := by decide +kernel
theorem zs_10_0 : zlk zstatL 10 0 = some 5 := by decide +kernel
theorem zs_10_3 : zlk zstatL 10 3 = some 21 := by decide +kernel
theorem zs_10_5 : zlk zstatL 10 5 = some 22 := by decide +kernel
theorem zs_10_6 : zlk zstatL 10 6 = some 23 := by decide +kernel
theorem zs_10_7 : zlk zstatL 10 7 = some 24 := by decide +kernel
theorem zs_11_0 : zlk zstatL 11 0 = some 12 := by decide +kernel
theorem zs_11_2 : zlk zstatL 11 2 = some 13 := by decide +kernel
theorem zs_11_4 : zlk zstatL 11 4 = some 14 := by decide +kernel
theorem zs_11_8 : zlk zstatL 11 8 = some 15 := by decide +kernel
theorem zs_16_0 : zlk zstatL 16 0 = some 17 := by decide +kernel
theorem zs_16_2 : zlk zstatL 16 2 = some 18 := by decide +kernel
theorem zs_16_4 : zlk zstatL 16 4 = some 19 := by decide +kernel
theorem zs_16_8 : zlk zstatL 16 8 = some 20 := by decide +kernel
theorem zs_25_3 : zlk zstatL 25 3 = some 26 := by decide +kernel
theorem zs_25_4 : zlk zstatL 25 4 = some 27 := by decide +kernel
theorem zs_25_5 : zlk zstatL 25 5 = some 28 := by decide +kernel
theorem zs_25_6 : zlk zstatL 25 6 = some 29 := by decide +kernel
theorem zs_25_7 : zlk zstatL 25 7 = some 30 := by decide +kernel
theorem zs_31_3 : zlk zstatL 31 3 = some 32 := by decide +kernel
theorem zs_31_4 : zlk zstatL 31 4 = some 33 := by decide +kernel
theorem zs_31_5 : zlk zstatL 31 5 = some 34 := by decide +kernel
theorem zs_31_6 : zlk zstatL 31 6 = some 35 := by decide +kernel
theorem zs_31_7 : zlk zstatL 31 7 = some 36 := by decide +kernel
theorem zs_37_3 : zlk zstatL 37 3 = some 38 := by decide +kernel
theorem zs_37_4 : zlk zstatL 37 4 = some 39 := by decide +kernel
theorem zs_37_5 : zlk zstatL 37 5 = some 40 := by decide +kernel
theorem zs_37_6 : zlk zstatL 37 6 = some 41 := by decide +kernel
theorem zs_37_7 : zlk zstatL 37 7 = some 42 := by decide +kernel
theorem zs_43_0 : zlk zstatL 43 0 = some 44 := by decide +kernel
theorem zs_43_3 : zlk zstatL 43 3 = some 135 := by decide +kernel
theorem zs_44_0 : zlk zstatL 44 0 = some 45 := by decide +kernel
theorem zs_44_1 : zlk zstatL 44 1 = some 51 := by decide +kernel
theorem zs_44_2 : zlk zstatL 44 2 = some 57 := by decide +kernel
theorem zs_44_3 : zlk zstatL 44 3 = some 63 := by decide +kernel
theorem zs_44_4 : zlk zstatL 44 4 = some 69 := by decide +kernel
theorem zs_44_5 : zlk zstatL 44 5 = some 75 := by decide +kernel
theorem zs_44_6 : zlk zstatL 44 6 = some 81 := by decide +kernel
theorem zs_44_7 : zlk zstatL 44 7 = some 87 := by decide +kernel
theorem zs_44_8 : zlk zstatL 44 8 = some 93 := by decide +kernel
theorem zs_44_9 : zlk zstatL 44 9 = some 99 := by decide +kernel
theorem zs_44_10 : zlk zstatL 44 10 = some 105 := by decide +kernel
theorem zs_44_11 : zlk zstatL 44 11 = some 111 := by decide +kernel
theorem zs_44_12 : zlk zstatL 44 12 = some 117 := by decide +kernel
theorem zs_44_13 : zlk zstatL 44 13 = some 123 := by decide +kernel
theorem zs_44_14 : zlk zstatL 44 14 = some 129 := by decide +kernel
theorem zs_45_3 : zlk zstatL 45 3 = some 46 := by decide +kernel
theorem zs_45_4 : zlk zstatL 45 4 = some 47 := by decide +kernel
theorem zs_45_5 : zlk zstatL 45 5 = some 48 := by decide +kernel
theorem zs_45_6 : zlk zstatL 45 6 = some 49 := by decide +kernel
theorem zs_45_7 : zlk zstatL 45 7 = some 50 := by decide +kernel
theorem zs_51_3 : zlk zstatL 51 3 = some 52 := by decide +kernel
theorem zs_51_4 : zlk zstatL 51 4 = some 53 := by decide +kernel
theorem zs_51_5 : zlk zstatL 51 5 = some 54 := by decide +kernel
theorem zs_51_6 : zlk zstatL 51 6 = some 55 := by decide +kernel
theorem zs_51_7 : zlk zstatL 51 7 = some 56 := by decide +kernel
theorem zs_57_3 : zlk zstatL 57 3 = some 58 := by decide +kernel
theorem zs_57_4 : zlk zstatL 57 4 = some 59 := by decide +kernel
theorem zs_57_5 : zlk zstatL 57 5 = some 60 := by decide +kernel
theorem zs_57_6 : zlk zstatL 57 6 = some 61 := by decide +kernel
theorem zs_57_7 : zlk zstatL 57 7 = some 62 := by decide +kernel
theorem zs_63_3 : zlk zstatL 63 3 = some 64 := by decide +kernel
theorem zs_63_4 : zlk zstatL 63 4 = some 65 := by decide +kernel
theorem zs_63_5 : zlk zstatL 63 5 = some 66 := by decide +kernel
theorem zs_63_6 : zlk zstatL 63 6 = some 67 := by decide +kernel
theorem zs_63_7 : zlk zstatL 63 7 = some 68 := by decide +kernel
theorem zs_69_3 : zlk zstatL 69 3 = some 70 := by decide +kernel
theorem zs_69_4 : zlk zstatL 69 4 = some 71 := by decide +kernel
theorem zs_69_5 : zlk zstatL 69 5 = some 72 := by decide +kernel
theorem zs_69_6 : zlk zstatL 69 6 = some 73 := by decide +kernel
theorem zs_69_7 : zlk zstatL 69 7 = some 74 := by decide +kernel
theorem zs_75_3 : zlk zstatL 75 3 = some 76 := by decide +kernel
theorem zs_75_4 : zlk zstatL 75 4 = some 77 := by decide +kernel
theorem zs_75_5 : zlk zstatL 75 5 = some 78 := by decide +kernel
theorem zs_75_6 : zlk zstatL 75 6 = some 79 := by decide +kernel
theorem zs_75_7 : zlk zstatL 75 7 = some 80 := by decide +kernel
theorem zs_81_3 : zlk zstatL 81 3 = some 82 := by decide +kernel
theorem zs_81_4 : zlk zstatL 81 4 = some 83 := by decide +kernel
theorem zs_81_5 : zlk zstatL 81 5 = some 84 := by decide +kernel
theorem zs_81_6 : zlk zstatL 81 6 = some 85 := by decide +kernel
theorem zs_81_7 : zlk zstatL 81 7 = some 86 := by decide +kernel
theorem zs_87_3 : zlk zstatL 87 3 = some 88 := by decide +kernel
theorem zs_87_4 : zlk zstatL 87 4 = some 89 := by decide +kernel
theorem zs_87_5 : zlk zstatL 87 5 = some 90 := by decide +kernel
theorem zs_87_6 : zlk zstatL 87 6 = some 91 := by decide +kernel
theorem zs_87_7 : zlk zstatL 87 7 = some 92 := by decide +kernel
theorem zs_93_3 : zlk zstatL 93 3 = some 94 := by decide +kernel
theorem zs_93_4 : zlk zstatL 93 4 = some 95 := by decide +kernel
theorem zs_93_5 : zlk zstatL 93 5 = some 96 := by decide +kernel
theorem zs_93_6 : zlk zstatL 93 6 = some 97 := by decide +kernel
theorem zs_93_7 : zlk zstatL 93 7 = some 98 := by decide +kernel
theorem zs_99_3 : zlk zstatL 99 3 = some 100 := by decide +kernel
theorem zs_99_4 : zlk zstatL 99 4 = some 101 := by decide +kernel
theorem zs_99_5 : zlk zstatL 99 5 = some 102 := by decide +kernel
theorem zs_99_6 : zlk zstatL 99 6 = some 103 := by decide +kernel
theorem zs_99_7 : zlk zstatL 99 7 = some 104 := by decide +kernel
theorem zs_105_3 : zlk zstatL 105 3 = some 106 := by decide +kernel
theorem zs_105_4 : zlk zstatL 105 4 = some 107 := by decide +kernel
theorem zs_105_5 : zlk zstatL 105 5 = some 108 := by decide +kernel
theorem zs_105_6 : zlk zstatL 105 6 = some 109 := by decide +kernel
theorem zs_105_7 : zlk zstatL 105 7 = some 110 := by decide +kernel
theorem zs_111_3 : zlk zstatL 111 3 = some 112 := by decide +kernel
theorem zs_111_4 : zlk zstatL 111 4 = some 113 := by decide +kernel
theorem zs_111_5 : zlk zstatL 111 5 = some 114 := by decide +kernel
theorem zs_111_6 : zlk zstatL 111 6 = some 115 := by decide +kernel
theorem zs_111_7 : zlk zstatL 111 7 = some 116 := by decide +kernel
theorem zs_117_3 : zlk zstatL 117 3 = some 118 := by decide +kernel
theorem zs_117_4 : zlk zstatL 117 4 = some 119 := by decide +kernel
theorem zs_117_5 : zlk zstatL 117 5 = some 120 := by decide +kernel
theorem zs_117_6 : zlk zstatL 117 6 = some 121 := by decide +kernel
theorem zs_117_7 : zlk zstatL 117 7 = some 122 := by decide +kernel
theorem zs_123_3 : zlk zstatL 123 3 = some 124 := by decide +kernel
theorem zs_123_4 : zlk zstatL 123 4 = some 125 := by decide +kernel
theorem zs_123_5 : zlk zstatL 123 5 = some 126 := by decide +kernel
theorem zs_123_6 : zlk zstatL 123 6 = some 127 := by decide +kernel
theorem zs_123_7 : zlk zstatL 123 7 = some 128 := by decide +kernel
theorem zs_129_3 : zlk zstatL 129 3 = some 130 := by decide +kernel
theorem zs_129_4 : zlk zstatL 129 4 = some 131 := by decide +kernel
theorem zs_129_5 : zlk zstatL 129 5 = some 132 := by decide +kernel
theorem zs_129_6 : zlk zstatL 129 6 = some 133 := by decide +kernel
theorem zs_129_7 : zlk zstatL 129 7 = some 134 := by decide +kernel
theorem zs_135_0 : zlk zstatL 135 0 = some 136 := by decide +kernel
theorem zs_135_1 : zlk zstatL 135 1 = some 142 := by decide +kernel
theorem zs_135_2 : zlk zstatL 135 2 = some 148 := by decide +kernel
theorem zs_136_3 : zlk zstatL 136 3 = some 137 := by decide +kernel
theorem zs_136_4 : zlk zstatL 136 4 = some 138 := by decide +kernel
theorem zs_136_5 : zlk zstatL 136 5 = some 139 := by decide +kernel
theorem zs_136_6 : zlk zstatL 136 6 = some 140 := by decide +kernel
theorem zs_136_7 : zlk zstatL 136 7 = some 141 := by decide +kernel
theorem zs_142_3 : zlk zstatL 142 3 = some 143 := by decide +kernel
theorem zs_142_4 : zlk zstatL 142 4 = some 144 := by decide +kernel
theorem zs_142_5 : zlk zstatL 142 5 = some 145 := by decide +kernel
theorem zs_142_6 : zlk zstatL 142 6 = some 146 := by decide +kernel
theorem zs_142_7 : zlk zstatL 142 7 = some 147 := by decide +kernel
theorem zs_148_3 : zlk zstatL 148 3 = some 149 := by decide +kernel
theorem zs_148_4 : zlk zstatL 148 4 = some 150 := by decide +kernel
theorem zs_148_5 : zlk zstatL 148 5 = some 151 := by decide +kernel
theorem zs_148_6 : zlk zstatL 148 6 = some 152 := by decide +kernel
theorem zs_148_7 : zlk zstatL 148 7 = some 153 := by decide +kernel
theorem zs_154_0 : zlk zstatL 154 0 = some 155 := by decide +kernel
theorem zs_154_1 : zlk zstatL 154 1 = some 156 := by decide +kernel
theorem zs_157_0 : zlk zstatL 157 0 = some 158 := by decide +kernel
theorem zs_157_1 : zlk zstatL 157 1 = some 159 := by decide +kernel
theorem zs_160_0 : zlk zstatL 160 0 = some 161 := by decide +kernel
theorem zs_160_1 : zlk zstatL 160 1 = some 162 := by decide +kernel
theorem zs_160_2 : zlk zstatL 160 2 = some 163 := by decide +kernel
theorem zs_164_0 : zlk zstatL 164 0 = some 165 := by decide +kernel
theorem zs_164_1 : zlk zstatL 164 1 = some 166 := by decide +kernel
theorem zs_167_0 : zlk zstatL 167 0 = some 168 := by decide +kernel
theorem zs_167_2 : zlk zstatL 167 2 = some 169 := by decide +kernel
theorem zs_170_2 : zlk zstatL 170 2 = some 171 := by decide +kernel
theorem zs_170_9 : zlk zstatL 170 9 = some 172 := by decide +kernel
theorem zs_170_10 : zlk zstatL 170 10 = some 173 := by decide +kernel
theorem zs_170_11 : zlk zstatL 170 11 = some 174 := by decide +kernel
theorem zs_170_12 : zlk zstatL 170 12 = some 175 := by decide +kernel
theorem zs_170_13 : zlk zstatL 170 13 = some 176 := by decide +kernel
theorem zs_170_18 : zlk zstatL 170 18 = some 177 := by decide +kernel
theorem zs_170_19 : zlk zstatL 170 19 = some 178 := by decide +kernel
theorem zs_170_21 : zlk zstatL 170 21 = some 179 := by decide +kernel
theorem zs_170_22 : zlk zstatL 170 22 = some 180 := by decide +kernel
theorem zs_170_25 : zlk zstatL 170 25 = some 181 := by decide +kernel
theorem zs_170_26 : zlk zstatL 170 26 = some 182 := by decide +kernel
theorem zs_170_28 : zlk zstatL 170 28 = some 183 := by decide +kernel
theorem zs_170_29 : zlk zstatL 170 29 = some 184 := by decide +kernel
theorem zs_170_30 : zlk zstatL 170 30 = some 185 := by decide +kernel
theorem zs_170_31 : zlk zstatL 170 31 = some 186 := by decide +kernel
theorem zs_170_32 : zlk zstatL 170 32 = some 187 := by decide +kernel
theorem zs_170_33 : zlk zstatL 170 33 = some 188 := by decide +kernel
theorem zs_170_35 : zlk zstatL 170 35 = some 189 := by decide +kernel
theorem zs_170_36 : zlk zstatL 170 36 = some 190 := by decide +kernel
theorem zs_170_37 : zlk zstatL 170 37 = some 191 := by decide +kernel
theorem zs_170_38 : zlk zstatL 170 38 = some 192 := by decide +kernel
theorem zs_170_40 : zlk zstatL 170 40 = some 193 := by decide +kernel
theorem zs_170_41 : zlk zstatL 170 41 = some 194 := by decide +kernel
theorem zs_170_42 : zlk zstatL 170 42 = some 195 := by decide +kernel
theorem zs_170_43 : zlk zstatL 170 43 = some 196 := by decide +kernel
theorem zs_170_44 : zlk zstatL 170 44 = some 197 := by decide +kernel
theorem zs_170_46 : zlk zstatL 170 46 = some 198 := by decide +kernel
theorem zs_170_47 : zlk zstatL 170 47 = some 199 := by decide +kernel
theorem zs_170_48 : zlk zstatL 170 48 = some 200 := by decide +kernel
theorem zl_2 : zll zlenL 2 = some 80 := by decide +kernel
theorem zl_4 : zll zlenL 4 = some 49 := by decide +kernel
theorem zl_6 : zll zlenL 6 = some 49 := by decide +kernel
theorem zl_7 : zll zlenL 7 = some 49 := by decide +kernel
theorem zl_8 : zll zlenL 8 = some 392 := by decide +kernel
theorem zl_9 : zll zlenL 9 = some 343 := by decide +kernel
theorem zl_12 : zll zlenL 12 = some 40 := by decide +kernel
theorem zl_13 : zll zlenL 13 = some 40 := by decide +kernel
theorem zl_14 : zll zlenL 14 = some 5 := by decide +kernel
theorem zl_15 : zll zlenL 15 = some 40 := by decide +kernel
theorem zl_17 : zll zlenL 17 = some 40 := by decide +kernel
theorem zl_18 : zll zlenL 18 = some 40 := by decide +kernel
theorem zl_19 : zll zlenL 19 = some 5 := by decide +kernel
theorem zl_20 : zll zlenL 20 = some 40 := by decide +kernel
theorem zl_21 : zll zlenL 21 = some 20 := by decide +kernel
theorem zl_22 : zll zlenL 22 = some 8 := by decide +kernel
theorem zl_23 : zll zlenL 23 = some 8 := by decide +kernel
theorem zl_24 : zll zlenL 24 = some 8 := by decide +kernel
theorem zl_26 : zll zlenL 26 = some 8 := by decide +kernel
theorem zl_27 : zll zlenL 27 = some 8 := by decide +kernel
theorem zl_28 : zll zlenL 28 = some 8 := by decide +kernel
theorem zl_29 : zll zlenL 29 = some 8 := by decide +kernel
theorem zl_30 : zll zlenL 30 = some 8 := by decide +kernel
theorem zl_32 : zll zlenL 32 = some 8 := by decide +kernel
theorem zl_33 : zll zlenL 33 = some 8 := by decide +kernel
theorem zl_34 : zll zlenL 34 = some 8 := by decide +kernel
theorem zl_35 : zll zlenL 35 = some 8 := by decide +kernel
theorem zl_36 : zll zlenL 36 = some 8 := by decide +kernel
theorem zl_38 : zll zlenL 38 = some 8 := by decide +kernel
theorem zl_39 : zll zlenL 39 = some 8 := by decide +kernel
theorem zl_40 : zll zlenL 40 = some 8 := by decide +kernel
theorem zl_41 : zll zlenL 41 = some 8 := by decide +kernel
theorem zl_42 : zll zlenL 42 = some 8 := by decide +kernel
theorem zl_44 : zll zlenL 44 = some 15 := by decide +kernel
theorem zl_46 : zll zlenL 46 = some 8 := by decide +kernel
theorem zl_47 : zll zlenL 47 = some 8 := by decide +kernel
theorem zl_48 : zll zlenL 48 = some 8 := by decide +kernel
theorem zl_49 : zll zlenL 49 = some 8 := by decide +kernel
theorem zl_50 : zll zlenL 50 = some 8 := by decide +kernel
theorem zl_52 : zll zlenL 52 = some 8 := by decide +kernel
theorem zl_53 : zll zlenL 53 = some 8 := by decide +kernel
theorem zl_54 : zll zlenL 54 = some 8 := by decide +kernel
theorem zl_55 : zll zlenL 55 = some 8 := by decide +kernel
theorem zl_56 : zll zlenL 56 = some 8 := by decide +kernel
theorem zl_58 : zll zlenL 58 = some 8 := by decide +kernel
theorem zl_59 : zll zlenL 59 = some 8 := by decide +kernel
theorem zl_60 : zll zlenL 60 = some 8 := by decide +kernel
theorem zl_61 : zll zlenL 61 = some 8 := by decide +kernel
theorem zl_62 : zll zlenL 62 = some 8 := by decide +kernel
theorem zl_64 : zll zlenL 64 = some 8 := by decide +kernel
theorem zl_65 : zll zlenL 65 = some 8 := by decide +kernel
theorem zl_66 : zll zlenL 66 = some 8 := by decide +kernel
theorem zl_67 : zll zlenL 67 = some 8 := by decide +kernel
theorem zl_68 : zll zlenL 68 = some 8 := by decide +kernel
theorem zl_70 : zll zlenL 70 = some 8 := by decide +kernel
theorem zl_71 : zll zlenL 71 = some 8 := by decide +kernel
theorem zl_72 : zll zlenL 72 = some 8 := by decide +kernel
theorem zl_73 : zll zlenL 73 = some 8 := by decide +kernel
theorem zl_74 : zll zlenL 74 = some 8 := by decide +kernel
theorem zl_76 : zll zlenL 76 = some 8 := by decide +kernel
theorem zl_77 : zll zlenL 77 = some 8 := by decide +kernel
theorem zl_78 : zll zlenL 78 = some 8 := by decide +kernel
theorem zl_79 : zll zlenL 79 = some 8 := by decide +kernel
theorem zl_80 : zll zlenL 80 = some 8 := by decide +kernel
theorem zl_82 : zll zlenL 82 = some 8 := by decide +kernel
theorem zl_83 : zll zlenL 83 = some 8 := by decide +kernel
theorem zl_84 : zll zlenL 84 = some 8 := by decide +kernel
theorem zl_85 : zll zlenL 85 = some 8 := by decide +kernel
theorem zl_86 : zll zlenL 86 = some 8 := by decide +kernel
theorem zl_88 : zll zlenL 88 = some 8 := by decide +kernel
theorem zl_89 : zll zlenL 89 = some 8 := by decide +kernel
theorem zl_90 : zll zlenL 90 = some 8 := by decide +kernel
theorem zl_91 : zll zlenL 91 = some 8 := by decide +kernel
theorem zl_92 : zll zlenL 92 = some 8 := by decide +kernel
theorem zl_94 : zll zlenL 94 = some 8 := by decide +kernel
theorem zl_95 : zll zlenL 95 = some 8 := by decide +kernel
theorem zl_96 : zll zlenL 96 = some 8 := by decide +kernel
theorem zl_97 : zll zlenL 97 = some 8 := by decide +kernel
theorem zl_98 : zll zlenL 98 = some 8 := by decide +kernel
theorem zl_100 : zll zlenL 100 = some 8 := by decide +kernel
theorem zl_101 : zll zlenL 101 = some 8 := by decide +kernel
theorem zl_102 : zll zlenL 102 = some 8 := by decide +kernel
theorem zl_103 : zll zlenL 103 = some 8 := by decide +kernel
theorem zl_104 : zll zlenL 104 = some 8 := by decide +kernel
theorem zl_106 : zll zlenL 106 = some 8 := by decide +kernel
theorem zl_107 : zll zlenL 107 = some 8 := by decide +kernel
theorem zl_108 : zll zlenL 108 = some 8 := by decide +kernel
theorem zl_109 : zll zlenL 109 = some 8 := by decide +kernel
theorem zl_110 : zll zlenL 110 = some 8 := by decide +kernel
theorem zl_112 : zll zlenL 112 = some 8 := by decide +kernel
theorem zl_113 : zll zlenL 113 = some 8 := by decide +kernel
theorem zl_114 : zll zlenL 114 = some 8 := by decide +kernel
theorem zl_115 : zll zlenL 115 = some 8 := by decide +kernel
theorem zl_116 : zll zlenL 116 = some 8 := by decide +kernel
theorem zl_118 : zll zlenL 118 = some 8 := by decide +kernel
theorem zl_119 : zll zlenL 119 = some 8 := by decide +kernel
theorem zl_120 : zll zlenL 120 = some 8 := by decide +kernel
theorem zl_121 : zll zlenL 121 = some 8 := by decide +kernel
theorem zl_122 : zll zlenL 122 = some 8 := by decide +kernel
theorem zl_124 : zll zlenL 124 = some 8 := by decide +kernel
theorem zl_125 : zll zlenL 125 = some 8 := by decide +kernel
theorem zl_126 : zll zlenL 126 = some 8 := by decide +kernel
theorem zl_127 : zll zlenL 127 = some 8 := by decide +kernel
theorem zl_128 : zll zlenL 128 = some 8 := by decide +kernel
theorem zl_130 : zll zlenL 130 = some 8 := by decide +kernel
theorem zl_131 : zll zlenL 131 = some 8 := by decide +kernel
theorem zl_132 : zll zlenL 132 = some 8 := by decide +kernel
theorem zl_133 : zll zlenL 133 = some 8 := by decide +kernel
theorem zl_134 : zll zlenL 134 = some 8 := by decide +kernel
theorem zl_135 : zll zlenL 135 = some 3 := by decide +kernel
theorem zl_137 : zll zlenL 137 = some 8 := by decide +kernel
theorem zl_138 : zll zlenL 138 = some 8 := by decide +kernel
theorem zl_139 : zll zlenL 139 = some 8 := by decide +kernel
theorem zl_140 : zll zlenL 140 = some 8 := by decide +kernel
theorem zl_141 : zll zlenL 141 = some 8 := by decide +kernel
theorem zl_143 : zll zlenL 143 = some 8 := by decide +kernel
theorem zl_144 : zll zlenL 144 = some 8 := by decide +kernel
theorem zl_145 : zll zlenL 145 = some 8 := by decide +kernel
theorem zl_146 : zll zlenL 146 = some 8 := by decide +kernel
theorem zl_147 : zll zlenL 147 = some 8 := by decide +kernel
theorem zl_149 : zll zlenL 149 = some 8 := by decide +kernel
theorem zl_150 : zll zlenL 150 = some 8 := by decide +kernel
theorem zl_151 : zll zlenL 151 = some 8 := by decide +kernel
theorem zl_152 : zll zlenL 152 = some 8 := by decide +kernel
theorem zl_153 : zll zlenL 153 = some 8 := by decide +kernel
theorem zl_155 : zll zlenL 155 = some 32 := by decide +kernel
theorem zl_156 : zll zlenL 156 = some 4 := by decide +kernel
theorem zl_158 : zll zlenL 158 = some 30 := by decide +kernel
theorem zl_159 : zll zlenL 159 = some 90 := by decide +kernel
theorem zl_161 : zll zlenL 161 = some 49 := by decide +kernel
theorem zl_162 : zll zlenL 162 = some 49 := by decide +kernel
theorem zl_163 : zll zlenL 163 = some 49 := by decide +kernel
theorem zl_165 : zll zlenL 165 = some 64 := by decide +kernel
theorem zl_166 : zll zlenL 166 = some 2304 := by decide +kernel
theorem zl_168 : zll zlenL 168 = some 9 := by decide +kernel
theorem zl_169 : zll zlenL 169 = some 61 := by decide +kernel
theorem zl_171 : zll zlenL 171 = some 53 := by decide +kernel
theorem zl_172 : zll zlenL 172 = some 49 := by decide +kernel
theorem zl_173 : zll zlenL 173 = some 20 := by decide +kernel
theorem zl_174 : zll zlenL 174 = some 41 := by decide +kernel
theorem zl_175 : zll zlenL 175 = some 41 := by decide +kernel
theorem zl_176 : zll zlenL 176 = some 80 := by decide +kernel
theorem zl_177 : zll zlenL 177 = some 49 := by decide +kernel
theorem zl_178 : zll zlenL 178 = some 24 := by decide +kernel
theorem zl_179 : zll zlenL 179 = some 80 := by decide +kernel
theorem zl_180 : zll zlenL 180 = some 80 := by decide +kernel
theorem zl_181 : zll zlenL 181 = some 80 := by decide +kernel
theorem zl_182 : zll zlenL 182 = some 8 := by decide +kernel
theorem zl_183 : zll zlenL 183 = some 656 := by decide +kernel
theorem zl_184 : zll zlenL 184 = some 8 := by decide +kernel
theorem zl_185 : zll zlenL 185 = some 60 := by decide +kernel
theorem zl_186 : zll zlenL 186 = some 60 := by decide +kernel
theorem zl_187 : zll zlenL 187 = some 60 := by decide +kernel
theorem zl_188 : zll zlenL 188 = some 60 := by decide +kernel
theorem zl_189 : zll zlenL 189 = some 8 := by decide +kernel
theorem zl_190 : zll zlenL 190 = some 64 := by decide +kernel
theorem zl_191 : zll zlenL 191 = some 2304 := by decide +kernel
theorem zl_192 : zll zlenL 192 = some 49 := by decide +kernel
theorem zl_193 : zll zlenL 193 = some 10 := by decide +kernel
theorem zl_194 : zll zlenL 194 = some 10 := by decide +kernel
theorem zl_195 : zll zlenL 195 = some 10 := by decide +kernel
theorem zl_196 : zll zlenL 196 = some 610 := by decide +kernel
theorem zl_197 : zll zlenL 197 = some 80 := by decide +kernel
theorem zl_198 : zll zlenL 198 = some 3 := by decide +kernel
theorem zl_199 : zll zlenL 199 = some 3 := by decide +kernel
theorem zl_200 : zll zlenL 200 = some 123 := by decide +kernel
end
section
/-! small numbers, sets as bits -/
def zn (k : Nat) : Int32 := Int32.ofNat k
theorem znt {k : Nat} (h : k < 2147483648) : (zn k).toInt = (k : Int) := Int32.toInt_ofNat_of_lt h
theorem zn_of {x : Int32} {k : Nat} (h : x.toInt = (k : Int)) : x = zn k := Int32.toInt_inj.mp (h.trans (znt (by have := x32_hi x; omega)).symm)
theorem zn_inj {a b : Nat} (h : zn a = zn b) (ha : a < 2147483648) (hb : b < 2147483648) : a = b := by
  have h1 := znt ha
  have h2 := znt hb
  rw [h] at h1
  omega
theorem zi1 : Int32.ofInt 1 = zI true := by decide
theorem zi0 : Int32.ofInt 0 = zI false := by decide
theorem zaddN {x y : Int32} {a b : Nat} (hx : x.toInt = (a : Int)) (hy : y.toInt = (b : Int)) (h : a + b < 2147483648) : x + y = zn (a + b) := zn_of (by
  rw [ti_add (by omega) (by omega), hx, hy]
  rfl)
theorem zsubN {x y : Int32} {a b : Nat} (hx : x.toInt = (a : Int)) (hy : y.toInt = (b : Int)) (h : b ≤ a) : x - y = zn (a - b) := zn_of (by
  have h1 := x32_hi x
  rw [ti_sub (by omega) (by omega), hx, hy]
  omega)
theorem zdecN {x : Int32} {a : Nat} (hx : x.toInt = (a : Int)) (h : 1 ≤ a) : x + Int32.ofInt (-1) = zn (a - 1) := zn_of (by
  have h1 := x32_hi x
  have h2 : (Int32.ofInt (-1)).toInt = -1 := by decide
  rw [ti_add (by omega) (by omega), hx, h2]
  omega)
theorem zmulN {x y : Int32} {a b : Nat} (hx : x.toInt = (a : Int)) (hy : y.toInt = (b : Int)) (ha : a ≤ 60) (hb : b ≤ 60) : (x * y).toInt = ((a * b : Nat) : Int) := by
  have h : a * b ≤ 60 * 60 := Nat.mul_le_mul ha hb
  have e : x.toInt * y.toInt = ((a * b : Nat) : Int) := by rw [hx, hy]; rfl
  rw [ti_mul (by rw [e]; omega) (by rw [e]; omega), e]
theorem zdivN {x y : Int32} {a b : Nat} (hx : x.toInt = (a : Int)) (hy : y.toInt = (b : Int)) (hb : 0 < b) : (x / y).toInt = ((a / b : Nat) : Int) := by
  rw [ti_div (by omega) (by omega), hx, hy]
  rfl
theorem zremN {x y : Int32} {a b : Nat} (hx : x.toInt = (a : Int)) (hy : y.toInt = (b : Int)) (hb : 0 < b) : (x - x / y * y).toInt = ((a % b : Nat) : Int) := by
  rw [ti_rem (by omega) (by omega), hx, hy]
  rfl
/-- bit k of a set of FIELDS, of PEOPLE -/
def zb (x : Int64) (k : Nat) : Bool := x.toBitVec.getLsbD k
def zd (x : Int32) (k : Nat) : Bool := x.toBitVec.getLsbD k
theorem zb_ext {x y : Int64} (h : ∀ k, k < 64 → zb x k = zb y k) : x = y := Int64.toBitVec_inj.mp (BitVec.eq_of_getLsbD_eq fun i hi => h i hi)
theorem zd_ext {x y : Int32} (h : ∀ k, k < 32 → zd x k = zd y k) : x = y := Int32.toBitVec_inj.mp (BitVec.eq_of_getLsbD_eq fun i hi => h i hi)
theorem zb_or (x y : Int64) (k : Nat) : zb (x ||| y) k = (zb x k || zb y k) := BitVec.getLsbD_or
theorem zb_and (x y : Int64) (k : Nat) : zb (x &&& y) k = (zb x k && zb y k) := BitVec.getLsbD_and
theorem zb_xor (x y : Int64) (k : Nat) : zb (x ^^^ y) k = (zb x k ^^ zb y k) := BitVec.getLsbD_xor
theorem zd_or (x y : Int32) (k : Nat) : zd (x ||| y) k = (zd x k || zd y k) := BitVec.getLsbD_or
theorem zd_and (x y : Int32) (k : Nat) : zd (x &&& y) k = (zd x k && zd y k) := BitVec.getLsbD_and
theorem zd_xor (x y : Int32) (k : Nat) : zd (x ^^^ y) k = (zd x k ^^ zd y k) := BitVec.getLsbD_xor
theorem zsh64 : ∀ k, k < 64 → (((zn k).toInt64 &&& 63).toBitVec.smod 64).toNat = k := by decide
theorem zsh32 : ∀ k, k < 32 → ((zn k &&& 31).toBitVec.smod 32).toNat = k := by decide
theorem zone64 : ∀ i, i < 64 → (1#64).getLsbD i = decide (i = 0) := by decide
theorem zone32 : ∀ i, i < 32 → (1#32).getLsbD i = decide (i = 0) := by decide
theorem zb_shr {x : Int64} {k i : Nat} (hk : k < 64) (h : i + k < 64) : zb (x >>> ((zn k).toInt64 &&& 63)) i = zb x (k + i) := by
  have e : (x >>> ((zn k).toInt64 &&& 63)).toBitVec = x.toBitVec.sshiftRight (((zn k).toInt64 &&& 63).toBitVec.smod 64).toNat := rfl
  unfold zb
  rw [e, zsh64 k hk, BitVec.getLsbD_sshiftRight]
  have h1 : ¬ 64 ≤ i := by omega
  have h2 : k + i < 64 := by omega
  simp [h1, h2]
theorem zd_shr {x : Int32} {k i : Nat} (hk : k < 32) (h : i + k < 32) : zd (x >>> (zn k &&& 31)) i = zd x (k + i) := by
  have e : (x >>> (zn k &&& 31)).toBitVec = x.toBitVec.sshiftRight ((zn k &&& 31).toBitVec.smod 32).toNat := rfl
  unfold zd
  rw [e, zsh32 k hk, BitVec.getLsbD_sshiftRight]
  have h1 : ¬ 32 ≤ i := by omega
  have h2 : k + i < 32 := by omega
  simp [h1, h2]
theorem zb_shl {x : Int64} {k i : Nat} (hk : k < 64) (hi : i < 64) : zb (x <<< ((zn k).toInt64 &&& 63)) i = (decide (k ≤ i) && zb x (i - k)) := by
  have e : (x <<< ((zn k).toInt64 &&& 63)).toBitVec = x.toBitVec <<< (((zn k).toInt64 &&& 63).toBitVec.smod 64).toNat := rfl
  unfold zb
  rw [e, zsh64 k hk, BitVec.getLsbD_shiftLeft]
  by_cases h : k ≤ i
  · have h1 : ¬ i < k := by omega
    simp [hi, h, h1]
  · have h1 : i < k := by omega
    simp [hi, h, h1]
theorem zd_shl {x : Int32} {k i : Nat} (hk : k < 32) (hi : i < 32) : zd (x <<< (zn k &&& 31)) i = (decide (k ≤ i) && zd x (i - k)) := by
  have e : (x <<< (zn k &&& 31)).toBitVec = x.toBitVec <<< ((zn k &&& 31).toBitVec.smod 32).toNat := rfl
  unfold zd
  rw [e, zsh32 k hk, BitVec.getLsbD_shiftLeft]
  by_cases h : k ≤ i
  · have h1 : ¬ i < k := by omega
    simp [hi, h, h1]
  · have h1 : i < k := by omega
    simp [hi, h, h1]
theorem zb_1 {i : Nat} (hi : i < 64) : zb 1 i = decide (i = 0) := zone64 i hi
theorem zd_1 {i : Nat} (hi : i < 32) : zd 1 i = decide (i = 0) := zone32 i hi
theorem zb_bit {k i : Nat} (hk : k < 64) (hi : i < 64) : zb ((1 : Int64) <<< ((zn k).toInt64 &&& 63)) i = decide (i = k) := by
  rw [zb_shl hk hi]
  by_cases h : k ≤ i
  · rw [zb_1 (by omega)]
    by_cases e : i = k
    · subst e; simp
    · have : ¬ i - k = 0 := by omega
      simp [e, this]
  · have : ¬ i = k := by omega
    simp [h, this]
theorem zd_bit {k i : Nat} (hk : k < 32) (hi : i < 32) : zd ((1 : Int32) <<< (zn k &&& 31)) i = decide (i = k) := by
  rw [zd_shl hk hi]
  by_cases h : k ≤ i
  · rw [zd_1 (by omega)]
    by_cases e : i = k
    · subst e; simp
    · have : ¬ i - k = 0 := by omega
      simp [e, this]
  · have : ¬ i = k := by omega
    simp [h, this]
theorem zand1_64 (y : Int64) : (y &&& 1 = 1) ↔ zb y 0 = true := by
  constructor
  · intro h
    have h2 := zb_and y 1 0
    rw [h, zb_1 (by decide)] at h2
    simpa using h2.symm
  · intro h
    refine zb_ext fun k hk => ?_
    rw [zb_and, zb_1 hk]
    by_cases e : k = 0
    · subst e; simp [h]
    · simp [e]
theorem zand1_32 (y : Int32) : (y &&& 1 = 1) ↔ zd y 0 = true := by
  constructor
  · intro h
    have h2 := zd_and y 1 0
    rw [h, zd_1 (by decide)] at h2
    simpa using h2.symm
  · intro h
    refine zd_ext fun k hk => ?_
    rw [zd_and, zd_1 hk]
    by_cases e : k = 0
    · subst e; simp [h]
    · simp [e]
theorem zL1 : Int64.ofNat kG1 = 1 := by decide
theorem zL0 : Int64.ofNat kG0 = 0 := by decide
/-- lcmp -/
theorem zcmp {x y : Int64} : (x.toInt < y.toInt ∧ (lg_cmp x y).toInt = -1) ∨ (x = y ∧ (lg_cmp x y).toInt = 0) ∨ (y.toInt < x.toInt ∧ (lg_cmp x y).toInt = 1) := by
  unfold lg_cmp
  rcases Int.lt_trichotomy x.toInt y.toInt with h | h | h
  · have n1 : ¬ x > y := fun q => by have := Int64.lt_iff_toInt_lt.mp q; omega
    have n2 : ¬ x = y := fun q => by rw [q] at h; omega
    rw [if_neg n1, if_neg n2]
    exact Or.inl ⟨h, by decide⟩
  · have e := Int64.toInt_inj.mp h
    have n1 : ¬ x > y := fun q => by have := Int64.lt_iff_toInt_lt.mp q; omega
    rw [if_neg n1, if_pos e]
    exact Or.inr (Or.inl ⟨e, by decide⟩)
  · have n1 : x > y := Int64.lt_iff_toInt_lt.mpr h
    rw [if_pos n1]
    exact Or.inr (Or.inr ⟨h, by decide⟩)
/-- (x >> k & 1) == 1 -/
theorem zhas {x : Int64} {k : Nat} (hk : k < 64) : (lg_cmp ((x >>> ((zn k).toInt64 &&& 63)) &&& Int64.ofNat kG1) (Int64.ofNat kG1)).toInt = 0 ↔ zb x k = true := by
  have h0 : zb (x >>> ((zn k).toInt64 &&& 63)) 0 = zb x k := zb_shr (i := 0) hk (by omega)
  rw [zL1]
  have h1 := zand1_64 (x >>> ((zn k).toInt64 &&& 63))
  rw [h0] at h1
  rcases @zcmp ((x >>> ((zn k).toInt64 &&& 63)) &&& 1) 1 with ⟨a, b⟩ | ⟨a, b⟩ | ⟨a, b⟩
  · rw [b]
    exact iff_of_false (by decide) (fun q => by rw [h1.mpr q] at a; omega)
  · rw [b]
    exact iff_of_true rfl (h1.mp a)
  · rw [b]
    exact iff_of_false (by decide) (fun q => by rw [h1.mpr q] at a; omega)
end
section
/-! the reference: small methods, by W; printed by wip/z/z_b_small.py -/
/-- the reference's valley; its counts; its light and rule; a row of 41 -/
def zMl (ph : pm_H) (R C : Nat) (rk : Nat → Bool) : Prop := zc ph 170 3 = some (.int (zn R)) ∧ zc ph 170 4 = some (.int (zn C)) ∧ (∀ f, f < R * C → zc ph 172 f = some (.int (zI (rk f)))) ∧ 3 ≤ R ∧ R ≤ 7 ∧ 3 ≤ C ∧ C ≤ 7
def zMp (ph : pm_H) (P G : Nat) : Prop := zc ph 170 5 = some (.int (zn P)) ∧ P ≤ 8 ∧ zc ph 170 6 = some (.int (zn G)) ∧ G ≤ 8
def zMr (ph : pm_H) (sn : Nat) (sk : Nat → Nat) (cn : Nat) (cd : Nat → Nat) : Prop := zc ph 170 8 = some (.int (zn sn)) ∧ 1 ≤ sn ∧ sn ≤ 20 ∧ (∀ i, i < sn → zc ph 173 i = some (.int (zn (sk i))) ∧ sk i ≤ 9) ∧ zc ph 170 23 = some (.int (zn cn)) ∧ cn ≤ 40 ∧ ∀ i, i < cn → zc ph 179 i = some (.int (zn (cd i))) ∧ cd i ≤ 3000
def zNr (ph : pm_H) (A o : Nat) (v : Nat → Nat) : Prop := ∀ i, i < 41 → zc ph A (o + i) = some (.int (zn (v i)))
def zOk (R C P G : Nat) (v : Nat → Nat) : Prop := (∀ p, p < P → v p < R * C ∧ v (8 + p) < 8 ∧ v (16 + p) ≤ 4 ∧ v (24 + p) < 256) ∧ (∀ t, t < G → v (32 + t) < R * C) ∧ v 40 < 1000000
theorem zRC49 {R C : Nat} (hR : R ≤ 7) (hC : C ≤ 7) : R * C ≤ 49 := Nat.le_trans (Nat.mul_le_mul hR hC) (by decide)
theorem zMl_F {A : List Nat} {F : List (Nat × Nat)} {p q : pm_H} {R C : Nat} {rk : Nat → Bool} (f : zFr A F p q) (h1 : (170, 3) ∉ F) (h2 : (170, 4) ∉ F) (h3 : ∀ i, (172, i) ∉ F) (hA : 170 ∉ A ∧ 172 ∉ A) (h : zMl p R C rk) : zMl q R C rk := ⟨(f.1 _ _ hA.1 h1).trans h.1, (f.1 _ _ hA.1 h2).trans h.2.1, fun i hi => (f.1 _ _ hA.2 (h3 i)).trans (h.2.2.1 i hi), h.2.2.2⟩
theorem zMp_F {A : List Nat} {F : List (Nat × Nat)} {p q : pm_H} {P G : Nat} (f : zFr A F p q) (h1 : (170, 5) ∉ F) (h2 : (170, 6) ∉ F) (hA : 170 ∉ A) (h : zMp p P G) : zMp q P G := ⟨(f.1 _ _ hA h1).trans h.1, h.2.1, (f.1 _ _ hA h2).trans h.2.2.1, h.2.2.2⟩
theorem zNr_F {A : List Nat} {F : List (Nat × Nat)} {p q : pm_H} {B o : Nat} {v : Nat → Nat} (f : zFr A F p q) (hF : ∀ i, (B, i) ∉ F) (hA : B ∉ A) (h : zNr p B o v) : zNr q B o v := fun i hi => (f.1 _ _ hA (hF _)).trans (h i hi)
theorem zMr_F {A : List Nat} {F : List (Nat × Nat)} {p q : pm_H} {sn cn : Nat} {sk cd : Nat → Nat} (f : zFr A F p q) (h1 : (170, 8) ∉ F) (h2 : (170, 23) ∉ F) (hF : ∀ i, (173, i) ∉ F ∧ (179, i) ∉ F) (hA : 170 ∉ A ∧ 173 ∉ A ∧ 179 ∉ A) (h : zMr p sn sk cn cd) : zMr q sn sk cn cd := ⟨(f.1 _ _ hA.1 h1).trans h.1, h.2.1, h.2.2.1, fun i hi => ⟨(f.1 _ _ hA.2.1 (hF i).1).trans (h.2.2.2.1 i hi).1, (h.2.2.2.1 i hi).2⟩, (f.1 _ _ hA.1 h2).trans h.2.2.2.2.1, h.2.2.2.2.2.1, fun i hi => ⟨(f.1 _ _ hA.2.2 (hF i).2).trans (h.2.2.2.2.2.2 i hi).1, (h.2.2.2.2.2.2 i hi).2⟩⟩
theorem zm_flag {b : Bool} {ph : pm_H} : zM 184 [.int (zI b)] ph (fun v q => ph = q ∧ v = some (.int (zI b))) := by
  obtain ⟨Q, hQ⟩ : ∃ Q : Option Value → pm_H → Prop, Q = (fun v q => ph = q ∧ v = some (.int (zI b))) := ⟨_, rfl⟩
  rw [← hQ]
  refine zM_mk fun n D => ?_
  show zW n D 184 Q 0 [some (.int (zI b))] [] ph
  have c_0 : (Int32.ofInt 0).toInt = 0 := by decide
  have c_1 : (Int32.ofInt 1).toInt = 1 := by decide
  refine w_load (pc' := 1) (v := .int (zI b)) (m := 1) (ykc_184 (e := (2, .iload_n kF0, 0)) rfl) rfl rfl ?_
  refine w_beq (ykc_184 (e := (4, .ifCond .eq 7, 8)) rfl) rfl (fun b1 => ?_) (fun b1 => ?_)
  · refine w_alu (pc' := 9) (st' := [.int (Int32.ofInt 0)]) (ykc_184 (e := (0, .iconst 0, 0)) rfl) rfl rfl ?_
    refine w_ret (v := (some (.int (Int32.ofInt 0)))) (ykc_184 (e := (7, .ireturn, 0)) rfl) (zr_v rfl) ?_
    rw [hQ, zi0]
    exact ⟨rfl, zvB (b1.symm)⟩
  · refine w_alu (pc' := 5) (st' := [.int (Int32.ofInt 1)]) (ykc_184 (e := (0, .iconst 1, 0)) rfl) rfl rfl ?_
    refine w_br (pc' := 9) (st' := [.int (Int32.ofInt 1)]) (ykc_184 (e := (4, .goto 4, 9)) rfl) rfl ?_
    refine w_ret (v := (some (.int (Int32.ofInt 1)))) (ykc_184 (e := (7, .ireturn, 0)) rfl) (zr_v rfl) ?_
    rw [hQ, zi1]
    exact ⟨rfl, zvB (b1.symm)⟩
theorem zm_flag1 {ph : pm_H} : zM 184 [.int (Int32.ofInt 1)] ph (fun v q => ph = q ∧ v = some (.int (zI true))) := by rw [zi1]; exact zm_flag
theorem zm_flag0 {ph : pm_H} : zM 184 [.int (Int32.ofInt 0)] ph (fun v q => ph = q ∧ v = some (.int (zI false))) := by rw [zi0]; exact zm_flag
theorem zm_in {a b c : Int64} {x y z : Int} {ph : pm_H} (ha : a.toInt = x) (hb : b.toInt = y) (hc : c.toInt = z) : zM 182 [.long a, .long b, .long c] ph (fun v q => ph = q ∧ v = some (.int (zI (decide (y ≤ x ∧ x ≤ z))))) := by
  obtain ⟨Q, hQ⟩ : ∃ Q : Option Value → pm_H → Prop, Q = (fun v q => ph = q ∧ v = some (.int (zI (decide (y ≤ x ∧ x ≤ z))))) := ⟨_, rfl⟩
  rw [← hQ]
  refine zM_mk fun n D => ?_
  show zW n D 182 Q 0 [some (.long a), none, some (.long b), none, some (.long c), none] [] ph
  have c_0 : (Int32.ofInt 0).toInt = 0 := by decide
  have c_1 : (Int32.ofInt 1).toInt = 1 := by decide
  have q1 := @zcmp a b
  have q2 := @zcmp a c
  have q3 := @Int64.toInt_inj a b
  have q4 := @Int64.toInt_inj a c
  have w1 : (lg_cmp a b).toInt < 0 ↔ x < y := by
    rcases q1 with ⟨p, r⟩ | ⟨p, r⟩ | ⟨p, r⟩
    · omega
    · rw [p] at ha; omega
    · omega
  have w2 : 0 < (lg_cmp a c).toInt ↔ z < x := by
    rcases q2 with ⟨p, r⟩ | ⟨p, r⟩ | ⟨p, r⟩
    · omega
    · rw [p] at ha; omega
    · omega
  clear q1 q2 q3 q4
  refine w_load (pc' := 1) (v := .long a) (m := 1) (ykc_182 (e := (2, .lload_n kF0, 0)) rfl) rfl rfl ?_
  refine w_load (pc' := 2) (v := .long b) (m := 1) (ykc_182 (e := (2, .lload_n kF2, 0)) rfl) rfl rfl ?_
  refine w_alu (pc' := 3) (st' := [.int (lg_cmp a b)]) (ykc_182 (e := (0, .lcmp, 0)) rfl) rfl rfl ?_
  refine w_zlt (ykc_182 (e := (4, .ifCond .lt 14, 17)) rfl) rfl (fun b2 => ?_) (fun b2 => ?_)
  · refine w_alu (pc' := 18) (st' := [.int (Int32.ofInt 0)]) (ykc_182 (e := (0, .iconst 0, 0)) rfl) rfl rfl ?_
    refine w_ret (v := (some (.int (Int32.ofInt 0)))) (ykc_182 (e := (7, .ireturn, 0)) rfl) zr_z ?_
    rw [hQ, zi0]
    exact ⟨rfl, zvB ((decide_eq_false (by omega)).symm)⟩
  · refine w_load (pc' := 7) (v := .long a) (m := 1) (ykc_182 (e := (2, .lload_n kF0, 0)) rfl) rfl rfl ?_
    refine w_load (pc' := 9) (v := .long c) (m := 2) (ykc_182 (e := (2, .lload 4, 0)) rfl) rfl rfl ?_
    refine w_alu (pc' := 10) (st' := [.int (lg_cmp a c)]) (ykc_182 (e := (0, .lcmp, 0)) rfl) rfl rfl ?_
    refine w_zgt (ykc_182 (e := (4, .ifCond .gt 7, 17)) rfl) rfl (fun b3 => ?_) (fun b3 => ?_)
    · refine w_alu (pc' := 18) (st' := [.int (Int32.ofInt 0)]) (ykc_182 (e := (0, .iconst 0, 0)) rfl) rfl rfl ?_
      refine w_ret (v := (some (.int (Int32.ofInt 0)))) (ykc_182 (e := (7, .ireturn, 0)) rfl) zr_z ?_
      rw [hQ, zi0]
      exact ⟨rfl, zvB ((decide_eq_false (by omega)).symm)⟩
    · refine w_alu (pc' := 14) (st' := [.int (Int32.ofInt 1)]) (ykc_182 (e := (0, .iconst 1, 0)) rfl) rfl rfl ?_
      refine w_br (pc' := 18) (st' := [.int (Int32.ofInt 1)]) (ykc_182 (e := (4, .goto 4, 18)) rfl) rfl ?_
      refine w_ret (v := (some (.int (Int32.ofInt 1)))) (ykc_182 (e := (7, .ireturn, 0)) rfl) zr_z ?_
      rw [hQ, zi1]
      exact ⟨rfl, zvB ((decide_eq_true (by omega)).symm)⟩
theorem zm_has {x : Int64} {k : Int32} {kn : Nat} {ph : pm_H} (hk : k.toInt = (kn : Int)) (h64 : kn < 64) : zM 183 [.long x, .int k] ph (fun v q => ph = q ∧ v = some (.int (zI (zb x kn)))) := by
  obtain ⟨Q, hQ⟩ : ∃ Q : Option Value → pm_H → Prop, Q = (fun v q => ph = q ∧ v = some (.int (zI (zb x kn)))) := ⟨_, rfl⟩
  rw [← hQ]
  refine zM_mk fun n D => ?_
  show zW n D 183 Q 0 [some (.long x), none, some (.int k)] [] ph
  have c_0 : (Int32.ofInt 0).toInt = 0 := by decide
  have c_1 : (Int32.ofInt 1).toInt = 1 := by decide
  obtain rfl := zn_of hk
  have hz := zhas (x := x) h64
  show zW n D 183 Q 0 [some (.long x), none, some (.int (zn kn))] [] ph
  refine w_load (pc' := 1) (v := .long x) (m := 1) (ykc_183 (e := (2, .lload_n kF0, 0)) rfl) rfl rfl ?_
  refine w_load (pc' := 2) (v := .int (zn kn)) (m := 1) (ykc_183 (e := (2, .iload_n kF2, 0)) rfl) rfl rfl ?_
  refine w_alu (pc' := 3) (st' := [.long (x >>> ((zn kn).toInt64 &&& 63))]) (ykc_183 (e := (0, .lshr, 0)) rfl) rfl rfl ?_
  refine w_alu (pc' := 4) (st' := [.long (Int64.ofNat kG1), .long (x >>> ((zn kn).toInt64 &&& 63))]) (ykc_183 (e := (0, .lconst kG1, 0)) rfl) rfl rfl ?_
  refine w_alu (pc' := 5) (st' := [.long ((x >>> ((zn kn).toInt64 &&& 63)) &&& (Int64.ofNat kG1))]) (ykc_183 (e := (0, .land, 0)) rfl) rfl rfl ?_
  refine w_alu (pc' := 6) (st' := [.long (Int64.ofNat kG1), .long ((x >>> ((zn kn).toInt64 &&& 63)) &&& (Int64.ofNat kG1))]) (ykc_183 (e := (0, .lconst kG1, 0)) rfl) rfl rfl ?_
  refine w_alu (pc' := 7) (st' := [.int (lg_cmp ((x >>> ((zn kn).toInt64 &&& 63)) &&& (Int64.ofNat kG1)) (Int64.ofNat kG1))]) (ykc_183 (e := (0, .lcmp, 0)) rfl) rfl rfl ?_
  refine w_zne (ykc_183 (e := (4, .ifCond .ne 7, 14)) rfl) rfl (fun b4 => ?_) (fun b4 => ?_)
  · refine w_alu (pc' := 15) (st' := [.int (Int32.ofInt 0)]) (ykc_183 (e := (0, .iconst 0, 0)) rfl) rfl rfl ?_
    refine w_ret (v := (some (.int (Int32.ofInt 0)))) (ykc_183 (e := (7, .ireturn, 0)) rfl) zr_z ?_
    rw [hQ, zi0]
    exact ⟨rfl, zvB ((Bool.eq_false_iff.mpr (fun q => b4 (hz.mpr q))).symm)⟩
  · refine w_alu (pc' := 11) (st' := [.int (Int32.ofInt 1)]) (ykc_183 (e := (0, .iconst 1, 0)) rfl) rfl rfl ?_
    refine w_br (pc' := 15) (st' := [.int (Int32.ofInt 1)]) (ykc_183 (e := (4, .goto 4, 15)) rfl) rfl ?_
    refine w_ret (v := (some (.int (Int32.ofInt 1)))) (ykc_183 (e := (7, .ireturn, 0)) rfl) zr_z ?_
    rw [hQ, zi1]
    exact ⟨rfl, zvB ((hz.mp b4).symm)⟩
theorem zm_fields {ph : pm_H} {R C : Nat} {rk : Nat → Bool} (hS : zSh ph) (hL : zMl ph R C rk) : zM 188 [.ref 170] ph (fun v q => ph = q ∧ v = some (.int (zn (R * C)))) := by
  obtain ⟨Q, hQ⟩ : ∃ Q : Option Value → pm_H → Prop, Q = (fun v q => ph = q ∧ v = some (.int (zn (R * C)))) := ⟨_, rfl⟩
  rw [← hQ]
  refine zM_mk fun n D => ?_
  show zW n D 188 Q 0 [some (.ref 170)] [] ph
  obtain ⟨gR, gC, gK, hR3, hR7, hC3, hC7⟩ := hL
  have hRC := zRC49 hR7 hC7
  have tR := znt (k := R) (by omega)
  have tC := znt (k := C) (by omega)
  refine w_load (pc' := 1) (v := .ref 170) (m := 1) (ykc_188 (e := (2, .aload_n kF0, 0)) rfl) rfl rfl ?_
  refine w_gf (pc' := 4) (v := .int (zn R)) (ykc_188 (e := (5, .getfield 24, 0)) rfl) rfl gR rfl ?_
  refine w_load (pc' := 5) (v := .ref 170) (m := 1) (ykc_188 (e := (2, .aload_n kF0, 0)) rfl) rfl rfl ?_
  refine w_gf (pc' := 8) (v := .int (zn C)) (ykc_188 (e := (5, .getfield 27, 0)) rfl) rfl gC rfl ?_
  have e5 : (zn R) * (zn C) = zn (R * C) := zn_of (zmulN (by omega) (by omega) (by omega) (by omega))
  have te5 := znt (k := R * C) (by omega)
  refine w_alu (pc' := 9) (st' := [.int (zn (R * C))]) (ykc_188 (e := (0, .imul, 0)) rfl) (by rw [← e5]; rfl) rfl ?_
  refine w_ret (v := (some (.int (zn (R * C))))) (ykc_188 (e := (7, .ireturn, 0)) rfl) (zr_v rfl) ?_
  rw [hQ]
  exact ⟨rfl, rfl⟩
theorem zm_isField {ph : pm_H} {R C : Nat} {rk : Nat → Bool} (hS : zSh ph) (hL : zMl ph R C rk) {f : Int32} : zM 189 [.ref 170, .int f] ph (fun v q => ph = q ∧ v = some (.int (zI (decide (0 ≤ f.toInt ∧ f.toInt < ((R * C : Nat) : Int)))))) := by
  obtain ⟨Q, hQ⟩ : ∃ Q : Option Value → pm_H → Prop, Q = (fun v q => ph = q ∧ v = some (.int (zI (decide (0 ≤ f.toInt ∧ f.toInt < ((R * C : Nat) : Int)))))) := ⟨_, rfl⟩
  rw [← hQ]
  refine zM_mk fun n D => ?_
  show zW n D 189 Q 0 [some (.ref 170), some (.int f)] [] ph
  have c_0 : (Int32.ofInt 1).toInt = 1 := by decide
  have hx0 := x32_lo f
  have hx1 := x32_hi f
  have hL0 := hL
  obtain ⟨gR, gC, gK, hR3, hR7, hC3, hC7⟩ := hL
  have hRC := zRC49 hR7 hC7
  have tR := znt (k := R) (by omega)
  have tC := znt (k := C) (by omega)
  refine w_load (pc' := 1) (v := .int f) (m := 1) (ykc_189 (e := (2, .iload_n kF1, 0)) rfl) rfl rfl ?_
  refine w_alu (pc' := 2) (st' := [.long f.toInt64]) (ykc_189 (e := (0, .i2l, 0)) rfl) rfl rfl ?_
  refine w_alu (pc' := 3) (st' := [.long (Int64.ofNat kG0), .long f.toInt64]) (ykc_189 (e := (0, .lconst kG0, 0)) rfl) rfl rfl ?_
  refine w_load (pc' := 4) (v := .ref 170) (m := 1) (ykc_189 (e := (2, .aload_n kF0, 0)) rfl) rfl rfl ?_
  refine w_cv (as := [.ref 170]) (r := [.long (Int64.ofNat kG0), .long f.toInt64]) (ykc_189 (e := (6, .invokevirtual 122, 0)) rfl) rfl rfl rfl rfl (zm_fields hS hL0) (fun v6 ph7 hv => ?_)
  obtain ⟨rfl, rfl⟩ := hv
  have tRC := znt (k := R * C) (by omega)
  show zW n D 189 Q 7 [some (.ref 170), some (.int f)] [.int (zn (R * C)), .long (Int64.ofNat kG0), .long f.toInt64] ph
  refine w_alu (pc' := 8) (st' := [.int (Int32.ofInt 1), .int (zn (R * C)), .long (Int64.ofNat kG0), .long f.toInt64]) (ykc_189 (e := (0, .iconst 1, 0)) rfl) rfl rfl ?_
  obtain ⟨z8, e_z8, h_z8⟩ : ∃ zq : Int32, (zn (R * C)) - (Int32.ofInt 1) = zq ∧ zq.toInt = ((R * C : Nat) : Int) - (1 : Int) := ⟨_, rfl, (by have := ti_sub (x := (zn (R * C))) (y := (Int32.ofInt 1)) (by omega) (by omega); omega)⟩
  refine w_alu (pc' := 9) (st' := [.int z8, .long (Int64.ofNat kG0), .long f.toInt64]) (ykc_189 (e := (0, .isub, 0)) rfl) (by rw [← e_z8]; rfl) rfl ?_
  refine w_alu (pc' := 10) (st' := [.long z8.toInt64, .long (Int64.ofNat kG0), .long f.toInt64]) (ykc_189 (e := (0, .i2l, 0)) rfl) rfl rfl ?_
  refine w_cs (as := [.long f.toInt64, .long (Int64.ofNat kG0), .long z8.toInt64]) (r := []) (ykc_189 (e := (6, .invokestatic 126, 0)) rfl) rfl rfl rfl rfl (zm_in (x := f.toInt) (y := (0 : Int)) (z := ((R * C : Nat) : Int) - (1 : Int)) (by first | exact ztl | (rw [ztl]; omega) | decide | omega) (by first | exact ztl | (rw [ztl]; omega) | decide | omega) (by first | exact ztl | (rw [ztl]; omega) | decide | omega)) (fun v9 ph10 hv => ?_)
  obtain ⟨rfl, rfl⟩ := hv
  show zW n D 189 Q 13 [some (.ref 170), some (.int f)] [.int (zI (decide ((0 : Int) ≤ f.toInt ∧ f.toInt ≤ ((R * C : Nat) : Int) - (1 : Int))))] ph
  refine w_ret (v := (some (.int (zI (decide ((0 : Int) ≤ f.toInt ∧ f.toInt ≤ ((R * C : Nat) : Int) - (1 : Int))))))) (ykc_189 (e := (7, .ireturn, 0)) rfl) zr_z ?_
  rw [hQ]
  exact ⟨rfl, zvB (decide_eq_decide.mpr (by omega))⟩
theorem zm_isPerson {ph : pm_H} {P G : Nat} (hN : zMp ph P G) {p : Int32} : zM 190 [.ref 170, .int p] ph (fun v q => ph = q ∧ v = some (.int (zI (decide (0 ≤ p.toInt ∧ p.toInt < ((P : Nat) : Int)))))) := by
  obtain ⟨Q, hQ⟩ : ∃ Q : Option Value → pm_H → Prop, Q = (fun v q => ph = q ∧ v = some (.int (zI (decide (0 ≤ p.toInt ∧ p.toInt < ((P : Nat) : Int)))))) := ⟨_, rfl⟩
  rw [← hQ]
  refine zM_mk fun n D => ?_
  show zW n D 190 Q 0 [some (.ref 170), some (.int p)] [] ph
  have c_0 : (Int32.ofInt 1).toInt = 1 := by decide
  have hx0 := x32_lo p
  have hx1 := x32_hi p
  obtain ⟨gP, hP8, gG, hG8⟩ := hN
  have tP := znt (k := P) (by omega)
  have tG := znt (k := G) (by omega)
  refine w_load (pc' := 1) (v := .int p) (m := 1) (ykc_190 (e := (2, .iload_n kF1, 0)) rfl) rfl rfl ?_
  refine w_alu (pc' := 2) (st' := [.long p.toInt64]) (ykc_190 (e := (0, .i2l, 0)) rfl) rfl rfl ?_
  refine w_alu (pc' := 3) (st' := [.long (Int64.ofNat kG0), .long p.toInt64]) (ykc_190 (e := (0, .lconst kG0, 0)) rfl) rfl rfl ?_
  refine w_load (pc' := 4) (v := .ref 170) (m := 1) (ykc_190 (e := (2, .aload_n kF0, 0)) rfl) rfl rfl ?_
  refine w_gf (pc' := 7) (v := .int (zn P)) (ykc_190 (e := (5, .getfield 130, 0)) rfl) rfl gP rfl ?_
  refine w_alu (pc' := 8) (st' := [.int (Int32.ofInt 1), .int (zn P), .long (Int64.ofNat kG0), .long p.toInt64]) (ykc_190 (e := (0, .iconst 1, 0)) rfl) rfl rfl ?_
  obtain ⟨z11, e_z11, h_z11⟩ : ∃ zq : Int32, (zn P) - (Int32.ofInt 1) = zq ∧ zq.toInt = ((P : Nat) : Int) - (1 : Int) := ⟨_, rfl, (by have := ti_sub (x := (zn P)) (y := (Int32.ofInt 1)) (by omega) (by omega); omega)⟩
  refine w_alu (pc' := 9) (st' := [.int z11, .long (Int64.ofNat kG0), .long p.toInt64]) (ykc_190 (e := (0, .isub, 0)) rfl) (by rw [← e_z11]; rfl) rfl ?_
  refine w_alu (pc' := 10) (st' := [.long z11.toInt64, .long (Int64.ofNat kG0), .long p.toInt64]) (ykc_190 (e := (0, .i2l, 0)) rfl) rfl rfl ?_
  refine w_cs (as := [.long p.toInt64, .long (Int64.ofNat kG0), .long z11.toInt64]) (r := []) (ykc_190 (e := (6, .invokestatic 126, 0)) rfl) rfl rfl rfl rfl (zm_in (x := p.toInt) (y := (0 : Int)) (z := ((P : Nat) : Int) - (1 : Int)) (by first | exact ztl | (rw [ztl]; omega) | decide | omega) (by first | exact ztl | (rw [ztl]; omega) | decide | omega) (by first | exact ztl | (rw [ztl]; omega) | decide | omega)) (fun v12 ph13 hv => ?_)
  obtain ⟨rfl, rfl⟩ := hv
  show zW n D 190 Q 13 [some (.ref 170), some (.int p)] [.int (zI (decide ((0 : Int) ≤ p.toInt ∧ p.toInt ≤ ((P : Nat) : Int) - (1 : Int))))] ph
  refine w_ret (v := (some (.int (zI (decide ((0 : Int) ≤ p.toInt ∧ p.toInt ≤ ((P : Nat) : Int) - (1 : Int))))))) (ykc_190 (e := (7, .ireturn, 0)) rfl) zr_z ?_
  rw [hQ]
  exact ⟨rfl, zvB (decide_eq_decide.mpr (by omega))⟩
theorem zm_isThing {ph : pm_H} {P G : Nat} (hN : zMp ph P G) {t : Int32} : zM 191 [.ref 170, .int t] ph (fun v q => ph = q ∧ v = some (.int (zI (decide (0 ≤ t.toInt ∧ t.toInt < ((G : Nat) : Int)))))) := by
  obtain ⟨Q, hQ⟩ : ∃ Q : Option Value → pm_H → Prop, Q = (fun v q => ph = q ∧ v = some (.int (zI (decide (0 ≤ t.toInt ∧ t.toInt < ((G : Nat) : Int)))))) := ⟨_, rfl⟩
  rw [← hQ]
  refine zM_mk fun n D => ?_
  show zW n D 191 Q 0 [some (.ref 170), some (.int t)] [] ph
  have c_0 : (Int32.ofInt 1).toInt = 1 := by decide
  have hx0 := x32_lo t
  have hx1 := x32_hi t
  obtain ⟨gP, hP8, gG, hG8⟩ := hN
  have tP := znt (k := P) (by omega)
  have tG := znt (k := G) (by omega)
  refine w_load (pc' := 1) (v := .int t) (m := 1) (ykc_191 (e := (2, .iload_n kF1, 0)) rfl) rfl rfl ?_
  refine w_alu (pc' := 2) (st' := [.long t.toInt64]) (ykc_191 (e := (0, .i2l, 0)) rfl) rfl rfl ?_
  refine w_alu (pc' := 3) (st' := [.long (Int64.ofNat kG0), .long t.toInt64]) (ykc_191 (e := (0, .lconst kG0, 0)) rfl) rfl rfl ?_
  refine w_load (pc' := 4) (v := .ref 170) (m := 1) (ykc_191 (e := (2, .aload_n kF0, 0)) rfl) rfl rfl ?_
  refine w_gf (pc' := 7) (v := .int (zn G)) (ykc_191 (e := (5, .getfield 133, 0)) rfl) rfl gG rfl ?_
  refine w_alu (pc' := 8) (st' := [.int (Int32.ofInt 1), .int (zn G), .long (Int64.ofNat kG0), .long t.toInt64]) (ykc_191 (e := (0, .iconst 1, 0)) rfl) rfl rfl ?_
  obtain ⟨z14, e_z14, h_z14⟩ : ∃ zq : Int32, (zn G) - (Int32.ofInt 1) = zq ∧ zq.toInt = ((G : Nat) : Int) - (1 : Int) := ⟨_, rfl, (by have := ti_sub (x := (zn G)) (y := (Int32.ofInt 1)) (by omega) (by omega); omega)⟩
  refine w_alu (pc' := 9) (st' := [.int z14, .long (Int64.ofNat kG0), .long t.toInt64]) (ykc_191 (e := (0, .isub, 0)) rfl) (by rw [← e_z14]; rfl) rfl ?_
  refine w_alu (pc' := 10) (st' := [.long z14.toInt64, .long (Int64.ofNat kG0), .long t.toInt64]) (ykc_191 (e := (0, .i2l, 0)) rfl) rfl rfl ?_
  refine w_cs (as := [.long t.toInt64, .long (Int64.ofNat kG0), .long z14.toInt64]) (r := []) (ykc_191 (e := (6, .invokestatic 126, 0)) rfl) rfl rfl rfl rfl (zm_in (x := t.toInt) (y := (0 : Int)) (z := ((G : Nat) : Int) - (1 : Int)) (by first | exact ztl | (rw [ztl]; omega) | decide | omega) (by first | exact ztl | (rw [ztl]; omega) | decide | omega) (by first | exact ztl | (rw [ztl]; omega) | decide | omega)) (fun v15 ph16 hv => ?_)
  obtain ⟨rfl, rfl⟩ := hv
  show zW n D 191 Q 13 [some (.ref 170), some (.int t)] [.int (zI (decide ((0 : Int) ≤ t.toInt ∧ t.toInt ≤ ((G : Nat) : Int) - (1 : Int))))] ph
  refine w_ret (v := (some (.int (zI (decide ((0 : Int) ≤ t.toInt ∧ t.toInt ≤ ((G : Nat) : Int) - (1 : Int))))))) (ykc_191 (e := (7, .ireturn, 0)) rfl) zr_z ?_
  rw [hQ]
  exact ⟨rfl, zvB (decide_eq_decide.mpr (by omega))⟩
end
section
/-! the reference: who SEES what, by W; printed by wip/z/z_c_see.py -/
/-- i steps from a toward b -/
def zstp (a b i : Nat) : Nat := if a ≤ b then min (a + i) b else max (a - i) b
theorem zstp_0 {a b : Nat} : zstp a b 0 = a := by unfold zstp; split <;> omega
theorem zstp_lt {a b i N : Nat} (ha : a < N) (hb : b < N) : zstp a b i < N := by unfold zstp; split <;> omega
theorem zstp_f {a b i N : Nat} (ha : a < N) (hb : b < N) (hi : N ≤ i + 1) : zstp a b i = b := by unfold zstp; split <;> omega
theorem zstp_s {a b i : Nat} {d s : Int} (hd : d = (b : Int) - (zstp a b i : Nat)) (hs : (d < 0 ∧ s = -1) ∨ (d = 0 ∧ s = 0) ∨ (0 < d ∧ s = 1)) : ((zstp a b i : Nat) : Int) + s = ((zstp a b (i + 1) : Nat) : Int) := by
  unfold zstp at hd ⊢
  split at hd
  · next h => simp only [if_pos h]; omega
  · next h => simp only [if_neg h]; omega
/-- the FIELD that one comes to after i steps from a to g -/
def zpos (C a g i : Nat) : Nat := C * zstp (a / C) (g / C) i + zstp (a % C) (g % C) i
theorem zC_eq {C r c g : Nat} (hC : 0 < C) (hc : c < C) : C * r + c = g ↔ r = g / C ∧ c = g % C := by
  constructor
  · intro h
    subst h
    rw [Nat.mul_add_div hC, Nat.div_eq_of_lt hc, Nat.mul_add_mod, Nat.mod_eq_of_lt hc]
    exact ⟨by omega, rfl⟩
  · rintro ⟨rfl, rfl⟩
    exact Nat.div_add_mod g C
theorem zpos_f {R C a g i : Nat} (hC : 0 < C) (hC7 : C ≤ 7) (hR7 : R ≤ 7) (ha : a < R * C) (hg : g < R * C) (hi : 6 ≤ i) : zpos C a g i = g := by
  have h1 : a / C < R := (Nat.div_lt_iff_lt_mul hC).mpr ha
  have h2 : g / C < R := (Nat.div_lt_iff_lt_mul hC).mpr hg
  have h3 := Nat.mod_lt a hC
  have h4 := Nat.mod_lt g hC
  unfold zpos
  rw [zstp_f h1 h2 (by omega), zstp_f h3 h4 (by omega)]
  exact Nat.div_add_mod g C
theorem zpos_lt {R C a g i : Nat} (hC : 0 < C) (ha : a < R * C) (hg : g < R * C) : zpos C a g i < R * C := by
  have h1 : a / C < R := (Nat.div_lt_iff_lt_mul hC).mpr ha
  have h2 : g / C < R := (Nat.div_lt_iff_lt_mul hC).mpr hg
  have h5 := zstp_lt (i := i) h1 h2
  have h6 := zstp_lt (i := i) (Nat.mod_lt a hC) (Nat.mod_lt g hC)
  unfold zpos
  have h7 : C * (zstp (a / C) (g / C) i + 1) ≤ C * R := Nat.mul_le_mul_left C h5
  rw [Nat.mul_add, Nat.mul_comm C R] at h7
  omega
theorem zpos_s {C a g i : Nat} (hC : 0 < C) (h : zpos C a g i = g) : zpos C a g (i + 1) = g := by
  have h6 : zstp (a % C) (g % C) i < C := zstp_lt (Nat.mod_lt a hC) (Nat.mod_lt g hC)
  obtain ⟨e1, e2⟩ := (zC_eq hC h6).mp h
  have k : ∀ a b : Nat, zstp a b i = b → zstp a b (i + 1) = b := fun a b h => by
    unfold zstp at h ⊢
    split at h
    · next q => rw [if_pos q]; omega
    · next q => rw [if_neg q]; omega
  unfold zpos
  rw [k _ _ e1, k _ _ e2]
  exact Nat.div_add_mod g C
/-- none of the FIELDS between is a rock, i of them -/
def zclr (C : Nat) (rk : Nat → Bool) (a g : Nat) : Nat → Bool
  | 0 => true
  | i + 1 => zclr C rk a g i && (decide (zpos C a g (i + 1) = g) || !rk (zpos C a g (i + 1)))
theorem zclr_e {C : Nat} {rk : Nat → Bool} {a g i : Nat} (hC : 0 < C) (h : zpos C a g i = g) (k : Nat) : zclr C rk a g (i + k) = zclr C rk a g i ∧ zpos C a g (i + k) = g := by
  induction k with
  | zero => exact ⟨rfl, h⟩
  | succ k ih =>
    have e := zpos_s hC ih.2
    refine ⟨?_, e⟩
    show (zclr C rk a g (i + k) && (decide (zpos C a g (i + k + 1) = g) || !rk (zpos C a g (i + k + 1)))) = _
    rw [ih.1, e]
    simp
/-- of 0 up, 1 .. 7 round -/
def zway (d r : Int) : Nat := if 2 * r.natAbs < d.natAbs then (if d < 0 then 0 else 4) else if 2 * d.natAbs < r.natAbs then (if r < 0 then 6 else 2) else if d < 0 then (if r < 0 then 7 else 1) else if r < 0 then 5 else 3
theorem zway_lt {d r : Int} : zway d r < 8 := by
  unfold zway
  repeat' split
  all_goals omega
/-- eighths between two -/
def ze8 (a b : Nat) : Nat := min ((a : Int) - b).natAbs (8 - ((a : Int) - b).natAbs)
/-- one on the FIELD a SEES the FIELD g -/
def zsee (C : Nat) (rk : Nat → Bool) (a g fc br re : Nat) : Bool := decide (a = g) || (decide (max (((g / C : Nat) : Int) - (a / C : Nat)).natAbs (((g % C : Nat) : Int) - (a % C : Nat)).natAbs ≤ re) && (decide (ze8 (zway (((g / C : Nat) : Int) - (a / C : Nat)) (((g % C : Nat) : Int) - (a % C : Nat))) fc + br ≤ 4) && zclr C rk a g 7))
theorem zsgn : ∀ k : Nat, k < 121 → ((Int32.ofInt ((k : Int) - 60) >>> (31 &&& 31)) ||| ((-(Int32.ofInt ((k : Int) - 60))).toUInt32 >>> ((31 : Int32).toUInt32 &&& Int32.toUInt32 31)).toInt32).toInt = Int.sign ((k : Int) - 60) := by decide
theorem zj_sgn {x : Int32} {ph : pm_H} {d : Int} (hx : x.toInt = d) (h1 : -60 ≤ d) (h2 : d ≤ 60) : zM 304 [.int x] ph (fun v q => ph = q ∧ ∃ z : Int32, v = some (.int z) ∧ ((d < 0 ∧ z.toInt = -1) ∨ (d = 0 ∧ z.toInt = 0) ∨ (0 < d ∧ z.toInt = 1))) := by
  obtain ⟨Q, hQ⟩ : ∃ Q : Option Value → pm_H → Prop, Q = (fun v q => ph = q ∧ ∃ z : Int32, v = some (.int z) ∧ ((d < 0 ∧ z.toInt = -1) ∨ (d = 0 ∧ z.toInt = 0) ∨ (0 < d ∧ z.toInt = 1))) := ⟨_, rfl⟩
  rw [← hQ]
  refine zM_mk fun n D => ?_
  show zW n D 304 Q 0 [some (.int x)] [] ph
  have c_0 : ((Int8.ofInt 31).toInt32).toInt = 31 := by decide
  obtain ⟨k, hk⟩ : ∃ k : Nat, d = (k : Int) - 60 := ⟨(d + 60).toNat, by omega⟩
  have hs := zsgn k (by omega)
  have ex : x = Int32.ofInt ((k : Int) - 60) := Int32.toInt_inj.mp (by rw [hx, hk, Int32.toInt_ofInt_of_le (by omega) (by omega)])
  rw [← ex] at hs
  refine w_load (pc' := 1) (v := .int x) (m := 1) (ykc_304 (e := (2, .iload_n kF0, 0)) rfl) rfl rfl ?_
  refine w_push (pc' := 3) (v := .int ((Int8.ofInt 31).toInt32)) (m := 2) (ykc_304 (e := (1, .bipush 31, 0)) rfl) rfl rfl ?_
  refine w_alu (pc' := 4) (st' := [.int (x >>> (((Int8.ofInt 31).toInt32) &&& 31))]) (ykc_304 (e := (0, .ishr, 0)) rfl) rfl rfl ?_
  refine w_load (pc' := 5) (v := .int x) (m := 1) (ykc_304 (e := (2, .iload_n kF0, 0)) rfl) rfl rfl ?_
  refine w_alu (pc' := 6) (st' := [.int (-x), .int (x >>> (((Int8.ofInt 31).toInt32) &&& 31))]) (ykc_304 (e := (0, .ineg, 0)) rfl) rfl rfl ?_
  refine w_push (pc' := 8) (v := .int ((Int8.ofInt 31).toInt32)) (m := 2) (ykc_304 (e := (1, .bipush 31, 0)) rfl) rfl rfl ?_
  refine w_alu (pc' := 9) (st' := [.int (((-x).toUInt32 >>> (((Int8.ofInt 31).toInt32).toUInt32 &&& Int32.toUInt32 31)).toInt32), .int (x >>> (((Int8.ofInt 31).toInt32) &&& 31))]) (ykc_304 (e := (0, .iushr, 0)) rfl) rfl rfl ?_
  refine w_alu (pc' := 10) (st' := [.int ((x >>> (((Int8.ofInt 31).toInt32) &&& 31)) ||| (((-x).toUInt32 >>> (((Int8.ofInt 31).toInt32).toUInt32 &&& Int32.toUInt32 31)).toInt32))]) (ykc_304 (e := (0, .ior, 0)) rfl) rfl rfl ?_
  refine w_ret (v := (some (.int ((x >>> (((Int8.ofInt 31).toInt32) &&& 31)) ||| (((-x).toUInt32 >>> (((Int8.ofInt 31).toInt32).toUInt32 &&& Int32.toUInt32 31)).toInt32))))) (ykc_304 (e := (7, .ireturn, 0)) rfl) (zr_v rfl) ?_
  rw [hQ]
  refine ⟨rfl, _, rfl, ?_⟩
  rw [show ((x >>> (((Int8.ofInt 31).toInt32) &&& 31)) ||| (((-x).toUInt32 >>> (((Int8.ofInt 31).toInt32).toUInt32 &&& Int32.toUInt32 31)).toInt32)) = ((x >>> (31 &&& 31)) ||| ((-x).toUInt32 >>> ((31 : Int32).toUInt32 &&& Int32.toUInt32 31)).toInt32) from rfl, hs]
  rcases Int.lt_trichotomy d 0 with h | h | h
  · exact Or.inl ⟨h, by rw [← hk]; exact Int.sign_eq_neg_one_of_neg h⟩
  · exact Or.inr (Or.inl ⟨h, by rw [← hk, h]; rfl⟩)
  · exact Or.inr (Or.inr ⟨h, by rw [← hk]; exact Int.sign_eq_one_of_pos h⟩)
theorem zm_way {x y : Int32} {ph : pm_H} {d r : Int} (hx : x.toInt = d) (hy : y.toInt = r) (b1 : -60 ≤ d) (b2 : d ≤ 60) (b3 : -60 ≤ r) (b4 : r ≤ 60) : zM 221 [.int x, .int y] ph (fun v q => ph = q ∧ v = some (.int (zn (zway d r)))) := by
  obtain ⟨Q, hQ⟩ : ∃ Q : Option Value → pm_H → Prop, Q = (fun v q => ph = q ∧ v = some (.int (zn (zway d r)))) := ⟨_, rfl⟩
  rw [← hQ]
  refine zM_mk fun n D => ?_
  show zW n D 221 Q 0 [some (.int x), some (.int y)] [] ph
  have c_0 : ((Int8.ofInt 6).toInt32).toInt = 6 := by decide
  have c_1 : ((Int8.ofInt 7).toInt32).toInt = 7 := by decide
  have c_2 : (Int32.ofInt 0).toInt = 0 := by decide
  have c_3 : (Int32.ofInt 1).toInt = 1 := by decide
  have c_4 : (Int32.ofInt 2).toInt = 2 := by decide
  have c_5 : (Int32.ofInt 3).toInt = 3 := by decide
  have c_6 : (Int32.ofInt 4).toInt = 4 := by decide
  have c_7 : (Int32.ofInt 5).toInt = 5 := by decide
  refine w_load (pc' := 1) (v := .int x) (m := 1) (ykc_221 (e := (2, .iload_n kF0, 0)) rfl) rfl rfl ?_
  obtain ⟨z17, e_z17⟩ : ∃ zq : Int32, (if 0 ≤ x then x else 0 - x) = zq := ⟨_, rfl⟩
  have h_z17 := zabsI e_z17
  refine w_mem1 (pc' := 4) (m := 3) (st' := [.int z17]) (ph' := ph) (ykc_221 (e := (5, .invokestatic 276, 0)) rfl) (by rw [← e_z17]; rfl) rfl ?_
  refine w_alu (pc' := 5) (st' := [.int (Int32.ofInt 2), .int z17]) (ykc_221 (e := (0, .iconst 2, 0)) rfl) rfl rfl ?_
  refine w_load (pc' := 6) (v := .int y) (m := 1) (ykc_221 (e := (2, .iload_n kF1, 0)) rfl) rfl rfl ?_
  obtain ⟨z18, e_z18⟩ : ∃ zq : Int32, (if 0 ≤ y then y else 0 - y) = zq := ⟨_, rfl⟩
  have h_z18 := zabsI e_z18
  refine w_mem1 (pc' := 9) (m := 3) (st' := [.int z18, .int (Int32.ofInt 2), .int z17]) (ph' := ph) (ykc_221 (e := (5, .invokestatic 276, 0)) rfl) (by rw [← e_z18]; rfl) rfl ?_
  obtain ⟨z19, e_z19, h_z19⟩ : ∃ zq : Int32, (Int32.ofInt 2) * z18 = zq ∧ zq.toInt = (2 : Int) * z18.toInt := ⟨_, rfl, (by rw [ti_mul (by rw [show (Int32.ofInt 2).toInt = (2 : Int) by omega, show z18.toInt = z18.toInt by omega]; omega) (by rw [show (Int32.ofInt 2).toInt = (2 : Int) by omega, show z18.toInt = z18.toInt by omega]; omega), show (Int32.ofInt 2).toInt = (2 : Int) by omega, show z18.toInt = z18.toInt by omega] <;> omega)⟩
  refine w_alu (pc' := 10) (st' := [.int z19, .int z17]) (ykc_221 (e := (0, .imul, 0)) rfl) (by rw [← e_z19]; rfl) rfl ?_
  refine w_ile (ykc_221 (e := (4, .if_icmp .le 13, 23)) rfl) rfl (fun b20 => ?_) (fun b20 => ?_)
  · refine w_load (pc' := 24) (v := .int y) (m := 1) (ykc_221 (e := (2, .iload_n kF1, 0)) rfl) rfl rfl ?_
    obtain ⟨z21, e_z21⟩ : ∃ zq : Int32, (if 0 ≤ y then y else 0 - y) = zq := ⟨_, rfl⟩
    have h_z21 := zabsI e_z21
    refine w_mem1 (pc' := 27) (m := 3) (st' := [.int z21]) (ph' := ph) (ykc_221 (e := (5, .invokestatic 276, 0)) rfl) (by rw [← e_z21]; rfl) rfl ?_
    refine w_alu (pc' := 28) (st' := [.int (Int32.ofInt 2), .int z21]) (ykc_221 (e := (0, .iconst 2, 0)) rfl) rfl rfl ?_
    refine w_load (pc' := 29) (v := .int x) (m := 1) (ykc_221 (e := (2, .iload_n kF0, 0)) rfl) rfl rfl ?_
    obtain ⟨z22, e_z22⟩ : ∃ zq : Int32, (if 0 ≤ x then x else 0 - x) = zq := ⟨_, rfl⟩
    have h_z22 := zabsI e_z22
    refine w_mem1 (pc' := 32) (m := 3) (st' := [.int z22, .int (Int32.ofInt 2), .int z21]) (ph' := ph) (ykc_221 (e := (5, .invokestatic 276, 0)) rfl) (by rw [← e_z22]; rfl) rfl ?_
    obtain ⟨z23, e_z23, h_z23⟩ : ∃ zq : Int32, (Int32.ofInt 2) * z22 = zq ∧ zq.toInt = (2 : Int) * z22.toInt := ⟨_, rfl, (by rw [ti_mul (by rw [show (Int32.ofInt 2).toInt = (2 : Int) by omega, show z22.toInt = z22.toInt by omega]; omega) (by rw [show (Int32.ofInt 2).toInt = (2 : Int) by omega, show z22.toInt = z22.toInt by omega]; omega), show (Int32.ofInt 2).toInt = (2 : Int) by omega, show z22.toInt = z22.toInt by omega] <;> omega)⟩
    refine w_alu (pc' := 33) (st' := [.int z23, .int z21]) (ykc_221 (e := (0, .imul, 0)) rfl) (by rw [← e_z23]; rfl) rfl ?_
    refine w_ile (ykc_221 (e := (4, .if_icmp .le 14, 47)) rfl) rfl (fun b24 => ?_) (fun b24 => ?_)
    · refine w_load (pc' := 48) (v := .int x) (m := 1) (ykc_221 (e := (2, .iload_n kF0, 0)) rfl) rfl rfl ?_
      refine w_zge (ykc_221 (e := (4, .ifCond .ge 16, 64)) rfl) rfl (fun b25 => ?_) (fun b25 => ?_)
      · refine w_load (pc' := 65) (v := .int y) (m := 1) (ykc_221 (e := (2, .iload_n kF1, 0)) rfl) rfl rfl ?_
        refine w_zge (ykc_221 (e := (4, .ifCond .ge 7, 72)) rfl) rfl (fun b26 => ?_) (fun b26 => ?_)
        · refine w_alu (pc' := 73) (st' := [.int (Int32.ofInt 3)]) (ykc_221 (e := (0, .iconst 3, 0)) rfl) rfl rfl ?_
          refine w_ret (v := (some (.int (Int32.ofInt 3)))) (ykc_221 (e := (7, .ireturn, 0)) rfl) (zr_v rfl) ?_
          rw [hQ]
          exact ⟨rfl, by rw [zn_of (x := Int32.ofInt 3) (k := zway d r) (by unfold zway; (repeat' split) <;> omega)]⟩
        · refine w_alu (pc' := 69) (st' := [.int (Int32.ofInt 5)]) (ykc_221 (e := (0, .iconst 5, 0)) rfl) rfl rfl ?_
          refine w_br (pc' := 73) (st' := [.int (Int32.ofInt 5)]) (ykc_221 (e := (4, .goto 4, 73)) rfl) rfl ?_
          refine w_ret (v := (some (.int (Int32.ofInt 5)))) (ykc_221 (e := (7, .ireturn, 0)) rfl) (zr_v rfl) ?_
          rw [hQ]
          exact ⟨rfl, by rw [zn_of (x := Int32.ofInt 5) (k := zway d r) (by unfold zway; (repeat' split) <;> omega)]⟩
      · refine w_load (pc' := 52) (v := .int y) (m := 1) (ykc_221 (e := (2, .iload_n kF1, 0)) rfl) rfl rfl ?_
        refine w_zge (ykc_221 (e := (4, .ifCond .ge 8, 60)) rfl) rfl (fun b27 => ?_) (fun b27 => ?_)
        · refine w_alu (pc' := 61) (st' := [.int (Int32.ofInt 1)]) (ykc_221 (e := (0, .iconst 1, 0)) rfl) rfl rfl ?_
          refine w_br (pc' := 73) (st' := [.int (Int32.ofInt 1)]) (ykc_221 (e := (4, .goto 12, 73)) rfl) rfl ?_
          refine w_ret (v := (some (.int (Int32.ofInt 1)))) (ykc_221 (e := (7, .ireturn, 0)) rfl) (zr_v rfl) ?_
          rw [hQ]
          exact ⟨rfl, by rw [zn_of (x := Int32.ofInt 1) (k := zway d r) (by unfold zway; (repeat' split) <;> omega)]⟩
        · refine w_push (pc' := 57) (v := .int ((Int8.ofInt 7).toInt32)) (m := 2) (ykc_221 (e := (1, .bipush 7, 0)) rfl) rfl rfl ?_
          refine w_br (pc' := 73) (st' := [.int ((Int8.ofInt 7).toInt32)]) (ykc_221 (e := (4, .goto 16, 73)) rfl) rfl ?_
          refine w_ret (v := (some (.int ((Int8.ofInt 7).toInt32)))) (ykc_221 (e := (7, .ireturn, 0)) rfl) (zr_v rfl) ?_
          rw [hQ]
          exact ⟨rfl, by rw [zn_of (x := (Int8.ofInt 7).toInt32) (k := zway d r) (by unfold zway; (repeat' split) <;> omega)]⟩
    · refine w_load (pc' := 37) (v := .int y) (m := 1) (ykc_221 (e := (2, .iload_n kF1, 0)) rfl) rfl rfl ?_
      refine w_zge (ykc_221 (e := (4, .ifCond .ge 8, 45)) rfl) rfl (fun b28 => ?_) (fun b28 => ?_)
      · refine w_alu (pc' := 46) (st' := [.int (Int32.ofInt 2)]) (ykc_221 (e := (0, .iconst 2, 0)) rfl) rfl rfl ?_
        refine w_ret (v := (some (.int (Int32.ofInt 2)))) (ykc_221 (e := (7, .ireturn, 0)) rfl) (zr_v rfl) ?_
        rw [hQ]
        exact ⟨rfl, by rw [zn_of (x := Int32.ofInt 2) (k := zway d r) (by unfold zway; (repeat' split) <;> omega)]⟩
      · refine w_push (pc' := 42) (v := .int ((Int8.ofInt 6).toInt32)) (m := 2) (ykc_221 (e := (1, .bipush 6, 0)) rfl) rfl rfl ?_
        refine w_br (pc' := 46) (st' := [.int ((Int8.ofInt 6).toInt32)]) (ykc_221 (e := (4, .goto 4, 46)) rfl) rfl ?_
        refine w_ret (v := (some (.int ((Int8.ofInt 6).toInt32)))) (ykc_221 (e := (7, .ireturn, 0)) rfl) (zr_v rfl) ?_
        rw [hQ]
        exact ⟨rfl, by rw [zn_of (x := (Int8.ofInt 6).toInt32) (k := zway d r) (by unfold zway; (repeat' split) <;> omega)]⟩
  · refine w_load (pc' := 14) (v := .int x) (m := 1) (ykc_221 (e := (2, .iload_n kF0, 0)) rfl) rfl rfl ?_
    refine w_zge (ykc_221 (e := (4, .ifCond .ge 7, 21)) rfl) rfl (fun b29 => ?_) (fun b29 => ?_)
    · refine w_alu (pc' := 22) (st' := [.int (Int32.ofInt 4)]) (ykc_221 (e := (0, .iconst 4, 0)) rfl) rfl rfl ?_
      refine w_ret (v := (some (.int (Int32.ofInt 4)))) (ykc_221 (e := (7, .ireturn, 0)) rfl) (zr_v rfl) ?_
      rw [hQ]
      exact ⟨rfl, by rw [zn_of (x := Int32.ofInt 4) (k := zway d r) (by unfold zway; (repeat' split) <;> omega)]⟩
    · refine w_alu (pc' := 18) (st' := [.int (Int32.ofInt 0)]) (ykc_221 (e := (0, .iconst 0, 0)) rfl) rfl rfl ?_
      refine w_br (pc' := 22) (st' := [.int (Int32.ofInt 0)]) (ykc_221 (e := (4, .goto 4, 22)) rfl) rfl ?_
      refine w_ret (v := (some (.int (Int32.ofInt 0)))) (ykc_221 (e := (7, .ireturn, 0)) rfl) (zr_v rfl) ?_
      rw [hQ]
      exact ⟨rfl, by rw [zn_of (x := Int32.ofInt 0) (k := zway d r) (by unfold zway; (repeat' split) <;> omega)]⟩
theorem zm_e8 {x y : Int32} {ph : pm_H} {a b : Nat} (hx : x.toInt = (a : Int)) (hy : y.toInt = (b : Int)) (ha : a < 8) (hb : b < 8) : zM 222 [.int x, .int y] ph (fun v q => ph = q ∧ v = some (.int (zn (ze8 a b)))) := by
  obtain ⟨Q, hQ⟩ : ∃ Q : Option Value → pm_H → Prop, Q = (fun v q => ph = q ∧ v = some (.int (zn (ze8 a b)))) := ⟨_, rfl⟩
  rw [← hQ]
  refine zM_mk fun n D => ?_
  show zW n D 222 Q 0 [some (.int x), some (.int y), none] [] ph
  have c_0 : ((Int8.ofInt 8).toInt32).toInt = 8 := by decide
  refine w_load (pc' := 1) (v := .int x) (m := 1) (ykc_222 (e := (2, .iload_n kF0, 0)) rfl) rfl rfl ?_
  refine w_load (pc' := 2) (v := .int y) (m := 1) (ykc_222 (e := (2, .iload_n kF1, 0)) rfl) rfl rfl ?_
  obtain ⟨z30, e_z30, h_z30⟩ : ∃ zq : Int32, x - y = zq ∧ zq.toInt = ((a : Nat) : Int) - ((b : Nat) : Int) := ⟨_, rfl, (by have := ti_sub (x := x) (y := y) (by omega) (by omega); omega)⟩
  refine w_alu (pc' := 3) (st' := [.int z30]) (ykc_222 (e := (0, .isub, 0)) rfl) (by rw [← e_z30]; rfl) rfl ?_
  obtain ⟨z31, e_z31⟩ : ∃ zq : Int32, (if 0 ≤ z30 then z30 else 0 - z30) = zq := ⟨_, rfl⟩
  have h_z31 := zabsI e_z31
  refine w_mem1 (pc' := 6) (m := 3) (st' := [.int z31]) (ph' := ph) (ykc_222 (e := (5, .invokestatic 276, 0)) rfl) (by rw [← e_z31]; rfl) rfl ?_
  refine w_store (pc' := 7) (L' := [some (.int x), some (.int y), some (.int z31)]) (st' := []) (m := 1) (ykc_222 (e := (3, .istore_n kF2, 0)) rfl) rfl rfl ?_
  refine w_load (pc' := 8) (v := .int z31) (m := 1) (ykc_222 (e := (2, .iload_n kF2, 0)) rfl) rfl rfl ?_
  refine w_push (pc' := 10) (v := .int ((Int8.ofInt 8).toInt32)) (m := 2) (ykc_222 (e := (1, .bipush 8, 0)) rfl) rfl rfl ?_
  refine w_load (pc' := 11) (v := .int z31) (m := 1) (ykc_222 (e := (2, .iload_n kF2, 0)) rfl) rfl rfl ?_
  obtain ⟨z32, e_z32, h_z32⟩ : ∃ zq : Int32, ((Int8.ofInt 8).toInt32) - z31 = zq ∧ zq.toInt = (8 : Int) - z31.toInt := ⟨_, rfl, (by have := ti_sub (x := ((Int8.ofInt 8).toInt32)) (y := z31) (by omega) (by omega); omega)⟩
  refine w_alu (pc' := 12) (st' := [.int z32, .int z31]) (ykc_222 (e := (0, .isub, 0)) rfl) (by rw [← e_z32]; rfl) rfl ?_
  obtain ⟨z33, e_z33⟩ : ∃ zq : Int32, (if z32 < z31 then z32 else z31) = zq := ⟨_, rfl⟩
  have h_z33 := zminI e_z33
  refine w_mem1 (pc' := 15) (m := 3) (st' := [.int z33]) (ph' := ph) (ykc_222 (e := (5, .invokestatic 145, 0)) rfl) (by rw [← e_z33]; rfl) rfl ?_
  refine w_ret (v := (some (.int z33))) (ykc_222 (e := (7, .ireturn, 0)) rfl) (zr_v rfl) ?_
  rw [hQ]
  exact ⟨rfl, by rw [zn_of (x := z33) (k := ze8 a b) (by unfold ze8; omega)]⟩
theorem zm_clear {ph : pm_H} {R C : Nat} {rk : Nat → Bool} (hS : zSh ph) (hL : zMl ph R C rk) {x y : Int32} {a g : Nat} (hx : x.toInt = (a : Int)) (hy : y.toInt = (g : Int)) (ha : a < R * C) (hg : g < R * C) : zM 223 [.ref 170, .int x, .int y] ph (fun v q => ph = q ∧ v = some (.int (zI (zclr C rk a g 7)))) := by
  obtain ⟨Q, hQ⟩ : ∃ Q : Option Value → pm_H → Prop, Q = (fun v q => ph = q ∧ v = some (.int (zI (zclr C rk a g 7)))) := ⟨_, rfl⟩
  rw [← hQ]
  refine zM_mk fun n D => ?_
  show zW n D 223 Q 0 [some (.ref 170), some (.int x), some (.int y), none, none, none, none] [] ph
  have c_0 : (Int32.ofInt 0).toInt = 0 := by decide
  have c_1 : (Int32.ofInt 1).toInt = 1 := by decide
  obtain ⟨gR, gC, gK, hR3, hR7, hC3, hC7⟩ := hL
  have hRC := zRC49 hR7 hC7
  have tR := znt (k := R) (by omega)
  have tC := znt (k := C) (by omega)
  have a1 : a / C < R := (Nat.div_lt_iff_lt_mul (by omega)).mpr ha
  have g1 : g / C < R := (Nat.div_lt_iff_lt_mul (by omega)).mpr hg
  have a2 := Nat.mod_lt a (show 0 < C by omega)
  have g2 := Nat.mod_lt g (show 0 < C by omega)
  have p1 := Nat.zero_le (a / C)
  have p2 := Nat.zero_le (g / C)
  have p3 := Nat.zero_le (a % C)
  have p4 := Nat.zero_le (g % C)
  refine w_load (pc' := 1) (v := .int x) (m := 1) (ykc_223 (e := (2, .iload_n kF1, 0)) rfl) rfl rfl ?_
  refine w_load (pc' := 2) (v := .ref 170) (m := 1) (ykc_223 (e := (2, .aload_n kF0, 0)) rfl) rfl rfl ?_
  refine w_gf (pc' := 5) (v := .int (zn C)) (ykc_223 (e := (5, .getfield 27, 0)) rfl) rfl gC rfl ?_
  refine w_idiv (pc' := 6) (ykc_223 (e := (0, .idiv, 0)) rfl) rfl (fun d34 => ?_)
  have e35 : x / (zn C) = zn (a / C) := zn_of (zdivN (by omega) (by omega) (by omega))
  have te35 := znt (k := a / C) (by omega)
  rw [e35]
  show zW n D 223 Q 6 [some (.ref 170), some (.int x), some (.int y), none, none, none, none] [.int (zn (a / C))] ph
  refine w_store (pc' := 7) (L' := [some (.ref 170), some (.int x), some (.int y), some (.int (zn (a / C))), none, none, none]) (st' := []) (m := 1) (ykc_223 (e := (3, .istore_n kF3, 0)) rfl) rfl rfl ?_
  refine w_load (pc' := 8) (v := .int x) (m := 1) (ykc_223 (e := (2, .iload_n kF1, 0)) rfl) rfl rfl ?_
  refine w_load (pc' := 9) (v := .ref 170) (m := 1) (ykc_223 (e := (2, .aload_n kF0, 0)) rfl) rfl rfl ?_
  refine w_gf (pc' := 12) (v := .int (zn C)) (ykc_223 (e := (5, .getfield 27, 0)) rfl) rfl gC rfl ?_
  refine w_irem (pc' := 13) (ykc_223 (e := (0, .irem, 0)) rfl) rfl (fun d36 => ?_)
  have e37 : x - x / (zn C) * (zn C) = zn (a % C) := zn_of (zremN (by omega) (by omega) (by omega))
  have te37 := znt (k := a % C) (by omega)
  rw [e37]
  show zW n D 223 Q 13 [some (.ref 170), some (.int x), some (.int y), some (.int (zn (a / C))), none, none, none] [.int (zn (a % C))] ph
  refine w_store (pc' := 15) (L' := [some (.ref 170), some (.int x), some (.int y), some (.int (zn (a / C))), some (.int (zn (a % C))), none, none]) (st' := []) (m := 2) (ykc_223 (e := (3, .istore 4, 0)) rfl) rfl rfl ?_
  refine w_alu (pc' := 16) (st' := [.int (Int32.ofInt 1)]) (ykc_223 (e := (0, .iconst 1, 0)) rfl) rfl rfl ?_
  refine w_store (pc' := 18) (L' := [some (.ref 170), some (.int x), some (.int y), some (.int (zn (a / C))), some (.int (zn (a % C))), some (.int (Int32.ofInt 1)), none]) (st' := []) (m := 2) (ykc_223 (e := (3, .istore 5, 0)) rfl) rfl rfl ?_
  refine w_alu (pc' := 19) (st' := [.int (Int32.ofInt 1)]) (ykc_223 (e := (0, .iconst 1, 0)) rfl) rfl rfl ?_
  refine w_store (pc' := 21) (L' := [some (.ref 170), some (.int x), some (.int y), some (.int (zn (a / C))), some (.int (zn (a % C))), some (.int (Int32.ofInt 1)), some (.int (Int32.ofInt 1))]) (st' := []) (m := 2) (ykc_223 (e := (3, .istore 6, 0)) rfl) rfl rfl ?_
  have hl : ∀ n (i : Nat) (r c : Int32), r.toInt = ((zstp (a / C) (g / C) i : Nat) : Int) → c.toInt = ((zstp (a % C) (g % C) i : Nat) : Int) → (0 < i → i ≤ 7) → zW n D 223 Q 21 [some (.ref 170), some (.int x), some (.int y), some (.int r), some (.int c), some (.int (zI (zclr C rk a g i))), some (.int (zI (decide (i = 0 ∨ zpos C a g i ≠ g))))] [] ph := by
    intro n
    induction n using Nat.strongRecOn with
    | ind n ih =>
      intro i r c hr hc hi
      have s1 := zstp_lt (i := i) a1 g1
      have s2 := zstp_lt (i := i) a2 g2
      have s3 := zstp_lt (i := i + 1) a1 g1
      have s4 := zstp_lt (i := i + 1) a2 g2
      refine w_load (pc' := 23) (v := .int (zI (decide (i = 0 ∨ zpos C a g i ≠ g)))) (m := 2) (ykc_223 (e := (2, .iload 6, 0)) rfl) rfl rfl ?_
      refine w_beq (ykc_223 (e := (4, .ifCond .eq 91, 114)) rfl) rfl (fun b38 => ?_) (fun b38 => ?_)
      · refine w_load (pc' := 116) (v := .int (zI (zclr C rk a g i))) (m := 2) (ykc_223 (e := (2, .iload 5, 0)) rfl) rfl rfl ?_
        refine w_ret (v := (some (.int (zI (zclr C rk a g i))))) (ykc_223 (e := (7, .ireturn, 0)) rfl) zr_z ?_
        rw [hQ]
        have q0 : i ≠ 0 ∧ zpos C a g i = g := by
          have := of_decide_eq_false b38
          constructor
          · intro e; exact this (Or.inl e)
          · exact Classical.byContradiction fun e => this (Or.inr e)
        have q1 := (zclr_e (rk := rk) (by omega) q0.2 (7 - i)).1
        rw [show i + (7 - i) = 7 by have := hi (by omega); omega] at q1
        exact ⟨rfl, zvB q1.symm⟩
      · refine w_load (pc' := 27) (v := .int r) (m := 1) (ykc_223 (e := (2, .iload_n kF3, 0)) rfl) rfl rfl ?_
        refine w_load (pc' := 28) (v := .int y) (m := 1) (ykc_223 (e := (2, .iload_n kF2, 0)) rfl) rfl rfl ?_
        refine w_load (pc' := 29) (v := .ref 170) (m := 1) (ykc_223 (e := (2, .aload_n kF0, 0)) rfl) rfl rfl ?_
        refine w_gf (pc' := 32) (v := .int (zn C)) (ykc_223 (e := (5, .getfield 27, 0)) rfl) rfl gC rfl ?_
        refine w_idiv (pc' := 33) (ykc_223 (e := (0, .idiv, 0)) rfl) rfl (fun d39 => ?_)
        have e40 : y / (zn C) = zn (g / C) := zn_of (zdivN (by omega) (by omega) (by omega))
        have te40 := znt (k := g / C) (by omega)
        rw [e40]
        show zW n D 223 Q 33 [some (.ref 170), some (.int x), some (.int y), some (.int r), some (.int c), some (.int (zI (zclr C rk a g i))), some (.int (zI (decide (i = 0 ∨ zpos C a g i ≠ g))))] [.int (zn (g / C)), .int r] ph
        refine w_load (pc' := 34) (v := .int r) (m := 1) (ykc_223 (e := (2, .iload_n kF3, 0)) rfl) rfl rfl ?_
        obtain ⟨z41, e_z41, h_z41⟩ : ∃ zq : Int32, (zn (g / C)) - r = zq ∧ zq.toInt = ((g / C : Nat) : Int) - ((zstp (a / C) (g / C) i : Nat) : Int) := ⟨_, rfl, (by have := ti_sub (x := (zn (g / C))) (y := r) (by omega) (by omega); omega)⟩
        refine w_alu (pc' := 35) (st' := [.int z41, .int r]) (ykc_223 (e := (0, .isub, 0)) rfl) (by rw [← e_z41]; rfl) rfl ?_
        refine w_cs (as := [.int z41]) (r := [.int r]) (ykc_223 (e := (6, .invokestatic 279, 0)) rfl) rfl rfl rfl rfl (zj_sgn (d := ((g / C : Nat) : Int) - ((zstp (a / C) (g / C) i : Nat) : Int)) (by omega) (by omega) (by omega)) (fun v43 ph44 hv => ?_)
        obtain ⟨rfl, g42, rfl, hs_g42⟩ := hv
        show zW n D 223 Q 38 [some (.ref 170), some (.int x), some (.int y), some (.int r), some (.int c), some (.int (zI (zclr C rk a g i))), some (.int (zI (decide (i = 0 ∨ zpos C a g i ≠ g))))] [.int g42, .int r] ph
        have e45 : r + g42 = zn (zstp (a / C) (g / C) (i + 1)) := zn_of (by have := ti_add (x := r) (y := g42) (by omega) (by omega); rw [this, hr]; exact zstp_s (by omega) hs_g42)
        have te45 := znt (k := zstp (a / C) (g / C) (i + 1)) (by omega)
        refine w_alu (pc' := 39) (st' := [.int (zn (zstp (a / C) (g / C) (i + 1)))]) (ykc_223 (e := (0, .iadd, 0)) rfl) (by rw [← e45]; rfl) rfl ?_
        refine w_store (pc' := 40) (L' := [some (.ref 170), some (.int x), some (.int y), some (.int (zn (zstp (a / C) (g / C) (i + 1)))), some (.int c), some (.int (zI (zclr C rk a g i))), some (.int (zI (decide (i = 0 ∨ zpos C a g i ≠ g))))]) (st' := []) (m := 1) (ykc_223 (e := (3, .istore_n kF3, 0)) rfl) rfl rfl ?_
        refine w_load (pc' := 42) (v := .int c) (m := 2) (ykc_223 (e := (2, .iload 4, 0)) rfl) rfl rfl ?_
        refine w_load (pc' := 43) (v := .int y) (m := 1) (ykc_223 (e := (2, .iload_n kF2, 0)) rfl) rfl rfl ?_
        refine w_load (pc' := 44) (v := .ref 170) (m := 1) (ykc_223 (e := (2, .aload_n kF0, 0)) rfl) rfl rfl ?_
        refine w_gf (pc' := 47) (v := .int (zn C)) (ykc_223 (e := (5, .getfield 27, 0)) rfl) rfl gC rfl ?_
        refine w_irem (pc' := 48) (ykc_223 (e := (0, .irem, 0)) rfl) rfl (fun d46 => ?_)
        have e47 : y - y / (zn C) * (zn C) = zn (g % C) := zn_of (zremN (by omega) (by omega) (by omega))
        have te47 := znt (k := g % C) (by omega)
        rw [e47]
        show zW n D 223 Q 48 [some (.ref 170), some (.int x), some (.int y), some (.int (zn (zstp (a / C) (g / C) (i + 1)))), some (.int c), some (.int (zI (zclr C rk a g i))), some (.int (zI (decide (i = 0 ∨ zpos C a g i ≠ g))))] [.int (zn (g % C)), .int c] ph
        refine w_load (pc' := 50) (v := .int c) (m := 2) (ykc_223 (e := (2, .iload 4, 0)) rfl) rfl rfl ?_
        obtain ⟨z48, e_z48, h_z48⟩ : ∃ zq : Int32, (zn (g % C)) - c = zq ∧ zq.toInt = ((g % C : Nat) : Int) - ((zstp (a % C) (g % C) i : Nat) : Int) := ⟨_, rfl, (by have := ti_sub (x := (zn (g % C))) (y := c) (by omega) (by omega); omega)⟩
        refine w_alu (pc' := 51) (st' := [.int z48, .int c]) (ykc_223 (e := (0, .isub, 0)) rfl) (by rw [← e_z48]; rfl) rfl ?_
        refine w_cs (as := [.int z48]) (r := [.int c]) (ykc_223 (e := (6, .invokestatic 279, 0)) rfl) rfl rfl rfl rfl (zj_sgn (d := ((g % C : Nat) : Int) - ((zstp (a % C) (g % C) i : Nat) : Int)) (by omega) (by omega) (by omega)) (fun v50 ph51 hv => ?_)
        obtain ⟨rfl, g49, rfl, hs_g49⟩ := hv
        show zW n D 223 Q 54 [some (.ref 170), some (.int x), some (.int y), some (.int (zn (zstp (a / C) (g / C) (i + 1)))), some (.int c), some (.int (zI (zclr C rk a g i))), some (.int (zI (decide (i = 0 ∨ zpos C a g i ≠ g))))] [.int g49, .int c] ph
        have e52 : c + g49 = zn (zstp (a % C) (g % C) (i + 1)) := zn_of (by have := ti_add (x := c) (y := g49) (by omega) (by omega); rw [this, hc]; exact zstp_s (by omega) hs_g49)
        have te52 := znt (k := zstp (a % C) (g % C) (i + 1)) (by omega)
        refine w_alu (pc' := 55) (st' := [.int (zn (zstp (a % C) (g % C) (i + 1)))]) (ykc_223 (e := (0, .iadd, 0)) rfl) (by rw [← e52]; rfl) rfl ?_
        refine w_store (pc' := 57) (L' := [some (.ref 170), some (.int x), some (.int y), some (.int (zn (zstp (a / C) (g / C) (i + 1)))), some (.int (zn (zstp (a % C) (g % C) (i + 1)))), some (.int (zI (zclr C rk a g i))), some (.int (zI (decide (i = 0 ∨ zpos C a g i ≠ g))))]) (st' := []) (m := 2) (ykc_223 (e := (3, .istore 4, 0)) rfl) rfl rfl ?_
        refine w_load (pc' := 58) (v := .ref 170) (m := 1) (ykc_223 (e := (2, .aload_n kF0, 0)) rfl) rfl rfl ?_
        refine w_gf (pc' := 61) (v := .int (zn C)) (ykc_223 (e := (5, .getfield 27, 0)) rfl) rfl gC rfl ?_
        refine w_load (pc' := 62) (v := .int (zn (zstp (a / C) (g / C) (i + 1)))) (m := 1) (ykc_223 (e := (2, .iload_n kF3, 0)) rfl) rfl rfl ?_
        have m53 : C * zstp (a / C) (g / C) (i + 1) ≤ 7 * 7 := Nat.mul_le_mul (by omega) (by omega)
        have zm53 := Nat.zero_le (C * zstp (a / C) (g / C) (i + 1))
        have e54 : (zn C) * (zn (zstp (a / C) (g / C) (i + 1))) = zn (C * zstp (a / C) (g / C) (i + 1)) := zn_of (zmulN (by omega) (by omega) (by omega) (by omega))
        have te54 := znt (k := C * zstp (a / C) (g / C) (i + 1)) (by omega)
        refine w_alu (pc' := 63) (st' := [.int (zn (C * zstp (a / C) (g / C) (i + 1)))]) (ykc_223 (e := (0, .imul, 0)) rfl) (by rw [← e54]; rfl) rfl ?_
        refine w_load (pc' := 65) (v := .int (zn (zstp (a % C) (g % C) (i + 1)))) (m := 2) (ykc_223 (e := (2, .iload 4, 0)) rfl) rfl rfl ?_
        have e55 : (zn (C * zstp (a / C) (g / C) (i + 1))) + (zn (zstp (a % C) (g % C) (i + 1))) = zn (C * zstp (a / C) (g / C) (i + 1) + (zstp (a % C) (g % C) (i + 1))) := (zaddN (a := C * zstp (a / C) (g / C) (i + 1)) (b := zstp (a % C) (g % C) (i + 1)) (znt (by omega)) (znt (by omega)) (by omega)) 
        have te55 := znt (k := C * zstp (a / C) (g / C) (i + 1) + (zstp (a % C) (g % C) (i + 1))) (by omega)
        refine w_alu (pc' := 66) (st' := [.int (zn (C * zstp (a / C) (g / C) (i + 1) + (zstp (a % C) (g % C) (i + 1))))]) (ykc_223 (e := (0, .iadd, 0)) rfl) (by rw [← e55]; rfl) rfl ?_
        refine w_load (pc' := 67) (v := .int y) (m := 1) (ykc_223 (e := (2, .iload_n kF2, 0)) rfl) rfl rfl ?_
        refine w_ieq (ykc_223 (e := (4, .if_icmp .eq 7, 74)) rfl) rfl (fun b56 => ?_) (fun b56 => ?_)
        · refine w_alu (pc' := 75) (st' := [.int (Int32.ofInt 0)]) (ykc_223 (e := (0, .iconst 0, 0)) rfl) rfl rfl ?_
          refine w_store (pc' := 77) (L' := [some (.ref 170), some (.int x), some (.int y), some (.int (zn (zstp (a / C) (g / C) (i + 1)))), some (.int (zn (zstp (a % C) (g % C) (i + 1)))), some (.int (zI (zclr C rk a g i))), some (.int (Int32.ofInt 0))]) (st' := []) (m := 2) (ykc_223 (e := (3, .istore 6, 0)) rfl) rfl rfl ?_
          refine w_load (pc' := 79) (v := .int (zI (zclr C rk a g i))) (m := 2) (ykc_223 (e := (2, .iload 5, 0)) rfl) rfl rfl ?_
          refine w_beq (ykc_223 (e := (4, .ifCond .eq 29, 108)) rfl) rfl (fun b57 => ?_) (fun b57 => ?_)
          · refine w_alu (pc' := 109) (st' := [.int (Int32.ofInt 0)]) (ykc_223 (e := (0, .iconst 0, 0)) rfl) rfl rfl ?_
            refine w_store (pc' := 111) (L' := [some (.ref 170), some (.int x), some (.int y), some (.int (zn (zstp (a / C) (g / C) (i + 1)))), some (.int (zn (zstp (a % C) (g % C) (i + 1)))), some (.int (Int32.ofInt 0)), some (.int (Int32.ofInt 0))]) (st' := []) (m := 2) (ykc_223 (e := (3, .istore 5, 0)) rfl) rfl rfl ?_
            refine w_gb (ykc_223 (e := (4, .goto (-90), 21)) rfl) (fun k58 hk58 => ?_)
            have ep : zpos C a g (i + 1) = g := by unfold zpos; omega
            have e5 : zclr C rk a g (i + 1) = false := by
              show (zclr C rk a g i && (decide (zpos C a g (i + 1) = g) || !rk (zpos C a g (i + 1)))) = _
              simp [b57, ep]
            have e6 : decide (i + 1 = 0 ∨ zpos C a g (i + 1) ≠ g) = false := by simp [ep]
            have i6 : i + 1 ≤ 7 := by
              refine Nat.succ_le_of_lt (Nat.lt_of_not_le fun q => ?_)
              have q2 := of_decide_eq_true b38
              rcases q2 with q2 | q2
              · omega
              · exact q2 (zpos_f (by omega) hC7 hR7 ha hg (by omega))
            have h9 := ih k58 hk58 (i + 1) (zn (zstp (a / C) (g / C) (i + 1))) (zn (zstp (a % C) (g % C) (i + 1))) (by omega) (by omega) (fun _ => i6)
            simp only [e5, e6, ← zi1, ← zi0] at h9
            exact h9
          · refine w_load (pc' := 84) (v := .int (Int32.ofInt 0)) (m := 2) (ykc_223 (e := (2, .iload 6, 0)) rfl) rfl rfl ?_
            refine w_zeq (ykc_223 (e := (4, .ifCond .eq 20, 104)) rfl) rfl (fun b59 => ?_) (fun q => by exfalso; omega)
            refine w_alu (pc' := 105) (st' := [.int (Int32.ofInt 1)]) (ykc_223 (e := (0, .iconst 1, 0)) rfl) rfl rfl ?_
            refine w_br (pc' := 109) (st' := [.int (Int32.ofInt 1)]) (ykc_223 (e := (4, .goto 4, 109)) rfl) rfl ?_
            refine w_store (pc' := 111) (L' := [some (.ref 170), some (.int x), some (.int y), some (.int (zn (zstp (a / C) (g / C) (i + 1)))), some (.int (zn (zstp (a % C) (g % C) (i + 1)))), some (.int (Int32.ofInt 1)), some (.int (Int32.ofInt 0))]) (st' := []) (m := 2) (ykc_223 (e := (3, .istore 5, 0)) rfl) rfl rfl ?_
            refine w_gb (ykc_223 (e := (4, .goto (-90), 21)) rfl) (fun k60 hk60 => ?_)
            have ep : zpos C a g (i + 1) = g := by unfold zpos; omega
            have e5 : zclr C rk a g (i + 1) = true := by
              show (zclr C rk a g i && (decide (zpos C a g (i + 1) = g) || !rk (zpos C a g (i + 1)))) = _
              simp [b57, ep]
            have e6 : decide (i + 1 = 0 ∨ zpos C a g (i + 1) ≠ g) = false := by simp [ep]
            have i6 : i + 1 ≤ 7 := by
              refine Nat.succ_le_of_lt (Nat.lt_of_not_le fun q => ?_)
              have q2 := of_decide_eq_true b38
              rcases q2 with q2 | q2
              · omega
              · exact q2 (zpos_f (by omega) hC7 hR7 ha hg (by omega))
            have h9 := ih k60 hk60 (i + 1) (zn (zstp (a / C) (g / C) (i + 1))) (zn (zstp (a % C) (g % C) (i + 1))) (by omega) (by omega) (fun _ => i6)
            simp only [e5, e6, ← zi1, ← zi0] at h9
            exact h9
        · refine w_alu (pc' := 71) (st' := [.int (Int32.ofInt 1)]) (ykc_223 (e := (0, .iconst 1, 0)) rfl) rfl rfl ?_
          refine w_br (pc' := 75) (st' := [.int (Int32.ofInt 1)]) (ykc_223 (e := (4, .goto 4, 75)) rfl) rfl ?_
          refine w_store (pc' := 77) (L' := [some (.ref 170), some (.int x), some (.int y), some (.int (zn (zstp (a / C) (g / C) (i + 1)))), some (.int (zn (zstp (a % C) (g % C) (i + 1)))), some (.int (zI (zclr C rk a g i))), some (.int (Int32.ofInt 1))]) (st' := []) (m := 2) (ykc_223 (e := (3, .istore 6, 0)) rfl) rfl rfl ?_
          refine w_load (pc' := 79) (v := .int (zI (zclr C rk a g i))) (m := 2) (ykc_223 (e := (2, .iload 5, 0)) rfl) rfl rfl ?_
          refine w_beq (ykc_223 (e := (4, .ifCond .eq 29, 108)) rfl) rfl (fun b61 => ?_) (fun b61 => ?_)
          · refine w_alu (pc' := 109) (st' := [.int (Int32.ofInt 0)]) (ykc_223 (e := (0, .iconst 0, 0)) rfl) rfl rfl ?_
            refine w_store (pc' := 111) (L' := [some (.ref 170), some (.int x), some (.int y), some (.int (zn (zstp (a / C) (g / C) (i + 1)))), some (.int (zn (zstp (a % C) (g % C) (i + 1)))), some (.int (Int32.ofInt 0)), some (.int (Int32.ofInt 1))]) (st' := []) (m := 2) (ykc_223 (e := (3, .istore 5, 0)) rfl) rfl rfl ?_
            refine w_gb (ykc_223 (e := (4, .goto (-90), 21)) rfl) (fun k62 hk62 => ?_)
            have ep : zpos C a g (i + 1) ≠ g := by unfold zpos; omega
            have e5 : zclr C rk a g (i + 1) = false := by
              show (zclr C rk a g i && (decide (zpos C a g (i + 1) = g) || !rk (zpos C a g (i + 1)))) = _
              simp [b61, ep]
            have e6 : decide (i + 1 = 0 ∨ zpos C a g (i + 1) ≠ g) = true := by simp [ep]
            have i6 : i + 1 ≤ 7 := by
              refine Nat.succ_le_of_lt (Nat.lt_of_not_le fun q => ?_)
              have q2 := of_decide_eq_true b38
              rcases q2 with q2 | q2
              · omega
              · exact q2 (zpos_f (by omega) hC7 hR7 ha hg (by omega))
            have h9 := ih k62 hk62 (i + 1) (zn (zstp (a / C) (g / C) (i + 1))) (zn (zstp (a % C) (g % C) (i + 1))) (by omega) (by omega) (fun _ => i6)
            simp only [e5, e6, ← zi1, ← zi0] at h9
            exact h9
          · refine w_load (pc' := 84) (v := .int (Int32.ofInt 1)) (m := 2) (ykc_223 (e := (2, .iload 6, 0)) rfl) rfl rfl ?_
            refine w_zeq (ykc_223 (e := (4, .ifCond .eq 20, 104)) rfl) rfl (fun q => by exfalso; omega) (fun b63 => ?_)
            have zp : C * zstp (a / C) (g / C) (i + 1) + zstp (a % C) (g % C) (i + 1) < R * C := zpos_lt (by omega) ha hg
            refine w_load (pc' := 88) (v := .ref 170) (m := 1) (ykc_223 (e := (2, .aload_n kF0, 0)) rfl) rfl rfl ?_
            refine w_gf (pc' := 91) (v := .ref 172) (ykc_223 (e := (5, .getfield 33, 0)) rfl) rfl (zsg hS zs_170_9) rfl ?_
            refine w_load (pc' := 92) (v := .ref 170) (m := 1) (ykc_223 (e := (2, .aload_n kF0, 0)) rfl) rfl rfl ?_
            refine w_gf (pc' := 95) (v := .int (zn C)) (ykc_223 (e := (5, .getfield 27, 0)) rfl) rfl gC rfl ?_
            refine w_load (pc' := 96) (v := .int (zn (zstp (a / C) (g / C) (i + 1)))) (m := 1) (ykc_223 (e := (2, .iload_n kF3, 0)) rfl) rfl rfl ?_
            have m64 : C * zstp (a / C) (g / C) (i + 1) ≤ 7 * 7 := Nat.mul_le_mul (by omega) (by omega)
            have zm64 := Nat.zero_le (C * zstp (a / C) (g / C) (i + 1))
            have e65 : (zn C) * (zn (zstp (a / C) (g / C) (i + 1))) = zn (C * zstp (a / C) (g / C) (i + 1)) := zn_of (zmulN (by omega) (by omega) (by omega) (by omega))
            have te65 := znt (k := C * zstp (a / C) (g / C) (i + 1)) (by omega)
            refine w_alu (pc' := 97) (st' := [.int (zn (C * zstp (a / C) (g / C) (i + 1))), .ref 172]) (ykc_223 (e := (0, .imul, 0)) rfl) (by rw [← e65]; rfl) rfl ?_
            refine w_load (pc' := 99) (v := .int (zn (zstp (a % C) (g % C) (i + 1)))) (m := 2) (ykc_223 (e := (2, .iload 4, 0)) rfl) rfl rfl ?_
            have e66 : (zn (C * zstp (a / C) (g / C) (i + 1))) + (zn (zstp (a % C) (g % C) (i + 1))) = zn (C * zstp (a / C) (g / C) (i + 1) + (zstp (a % C) (g % C) (i + 1))) := (zaddN (a := C * zstp (a / C) (g / C) (i + 1)) (b := zstp (a % C) (g % C) (i + 1)) (znt (by omega)) (znt (by omega)) (by omega)) 
            have te66 := znt (k := C * zstp (a / C) (g / C) (i + 1) + (zstp (a % C) (g % C) (i + 1))) (by omega)
            refine w_alu (pc' := 100) (st' := [.int (zn (C * zstp (a / C) (g / C) (i + 1) + (zstp (a % C) (g % C) (i + 1)))), .ref 172]) (ykc_223 (e := (0, .iadd, 0)) rfl) (by rw [← e66]; rfl) rfl ?_
            refine w_balk (pc' := 101) (k := C * zstp (a / C) (g / C) (i + 1) + (zstp (a % C) (g % C) (i + 1))) (ykc_223 (e := (5, .baload, 0)) rfl) (gK (C * zstp (a / C) (g / C) (i + 1) + (zstp (a % C) (g % C) (i + 1))) (by omega)) (by omega) rfl ?_
            refine w_bne (ykc_223 (e := (4, .ifCond .ne 7, 108)) rfl) rfl (fun b67 => ?_) (fun b67 => ?_)
            · refine w_alu (pc' := 109) (st' := [.int (Int32.ofInt 0)]) (ykc_223 (e := (0, .iconst 0, 0)) rfl) rfl rfl ?_
              refine w_store (pc' := 111) (L' := [some (.ref 170), some (.int x), some (.int y), some (.int (zn (zstp (a / C) (g / C) (i + 1)))), some (.int (zn (zstp (a % C) (g % C) (i + 1)))), some (.int (Int32.ofInt 0)), some (.int (Int32.ofInt 1))]) (st' := []) (m := 2) (ykc_223 (e := (3, .istore 5, 0)) rfl) rfl rfl ?_
              refine w_gb (ykc_223 (e := (4, .goto (-90), 21)) rfl) (fun k68 hk68 => ?_)
              have ep : zpos C a g (i + 1) ≠ g := by unfold zpos; omega
              have er : rk (zpos C a g (i + 1)) = true := b67
              have e5 : zclr C rk a g (i + 1) = false := by
                show (zclr C rk a g i && (decide (zpos C a g (i + 1) = g) || !rk (zpos C a g (i + 1)))) = _
                simp [b61, ep, er]
              have e6 : decide (i + 1 = 0 ∨ zpos C a g (i + 1) ≠ g) = true := by simp [ep]
              have i6 : i + 1 ≤ 7 := by
                refine Nat.succ_le_of_lt (Nat.lt_of_not_le fun q => ?_)
                have q2 := of_decide_eq_true b38
                rcases q2 with q2 | q2
                · omega
                · exact q2 (zpos_f (by omega) hC7 hR7 ha hg (by omega))
              have h9 := ih k68 hk68 (i + 1) (zn (zstp (a / C) (g / C) (i + 1))) (zn (zstp (a % C) (g % C) (i + 1))) (by omega) (by omega) (fun _ => i6)
              simp only [e5, e6, ← zi1, ← zi0] at h9
              exact h9
            · refine w_alu (pc' := 105) (st' := [.int (Int32.ofInt 1)]) (ykc_223 (e := (0, .iconst 1, 0)) rfl) rfl rfl ?_
              refine w_br (pc' := 109) (st' := [.int (Int32.ofInt 1)]) (ykc_223 (e := (4, .goto 4, 109)) rfl) rfl ?_
              refine w_store (pc' := 111) (L' := [some (.ref 170), some (.int x), some (.int y), some (.int (zn (zstp (a / C) (g / C) (i + 1)))), some (.int (zn (zstp (a % C) (g % C) (i + 1)))), some (.int (Int32.ofInt 1)), some (.int (Int32.ofInt 1))]) (st' := []) (m := 2) (ykc_223 (e := (3, .istore 5, 0)) rfl) rfl rfl ?_
              refine w_gb (ykc_223 (e := (4, .goto (-90), 21)) rfl) (fun k69 hk69 => ?_)
              have ep : zpos C a g (i + 1) ≠ g := by unfold zpos; omega
              have er : rk (zpos C a g (i + 1)) = false := b67
              have e5 : zclr C rk a g (i + 1) = true := by
                show (zclr C rk a g i && (decide (zpos C a g (i + 1) = g) || !rk (zpos C a g (i + 1)))) = _
                simp [b61, ep, er]
              have e6 : decide (i + 1 = 0 ∨ zpos C a g (i + 1) ≠ g) = true := by simp [ep]
              have i6 : i + 1 ≤ 7 := by
                refine Nat.succ_le_of_lt (Nat.lt_of_not_le fun q => ?_)
                have q2 := of_decide_eq_true b38
                rcases q2 with q2 | q2
                · omega
                · exact q2 (zpos_f (by omega) hC7 hR7 ha hg (by omega))
              have h9 := ih k69 hk69 (i + 1) (zn (zstp (a / C) (g / C) (i + 1))) (zn (zstp (a % C) (g % C) (i + 1))) (by omega) (by omega) (fun _ => i6)
              simp only [e5, e6, ← zi1, ← zi0] at h9
              exact h9
  have h9 := hl n 0 (zn (a / C)) (zn (a % C)) (by rw [zstp_0]; omega) (by rw [zstp_0]; omega) (fun q => absurd q (by decide))
  simp only [zclr, decide_true, true_or, ← zi1] at h9
  exact h9
theorem zm_sees {ph : pm_H} {R C : Nat} {rk : Nat → Bool} (hS : zSh ph) (hL : zMl ph R C rk) {x y : Int32} {a g : Nat} (hx : x.toInt = (a : Int)) (hy : y.toInt = (g : Int)) (ha : a < R * C) (hg : g < R * C) {fa ba ra : Int32} {fc br re : Nat} (hf : fa.toInt = (fc : Int)) (hb : ba.toInt = (br : Int)) (hr : ra.toInt = (re : Int)) (hf8 : fc < 8) (hb4 : br ≤ 4) : zM 224 [.ref 170, .int x, .int y, .int fa, .int ba, .int ra] ph (fun v q => ph = q ∧ v = some (.int (zI (zsee C rk a g fc br re)))) := by
  obtain ⟨Q, hQ⟩ : ∃ Q : Option Value → pm_H → Prop, Q = (fun v q => ph = q ∧ v = some (.int (zI (zsee C rk a g fc br re)))) := ⟨_, rfl⟩
  rw [← hQ]
  refine zM_mk fun n D => ?_
  show zW n D 224 Q 0 [some (.ref 170), some (.int x), some (.int y), some (.int fa), some (.int ba), some (.int ra), none, none, none] [] ph
  have c_0 : (Int32.ofInt 0).toInt = 0 := by decide
  have c_1 : (Int32.ofInt 1).toInt = 1 := by decide
  have c_2 : (Int32.ofInt 4).toInt = 4 := by decide
  have hL0 := hL
  obtain ⟨gR, gC, gK, hR3, hR7, hC3, hC7⟩ := hL
  have hRC := zRC49 hR7 hC7
  have tR := znt (k := R) (by omega)
  have tC := znt (k := C) (by omega)
  have a1 : a / C < R := (Nat.div_lt_iff_lt_mul (by omega)).mpr ha
  have g1 : g / C < R := (Nat.div_lt_iff_lt_mul (by omega)).mpr hg
  have a2 := Nat.mod_lt a (show 0 < C by omega)
  have g2 := Nat.mod_lt g (show 0 < C by omega)
  have p1 := Nat.zero_le (a / C)
  have p2 := Nat.zero_le (g / C)
  have p3 := Nat.zero_le (a % C)
  have p4 := Nat.zero_le (g % C)
  refine w_load (pc' := 1) (v := .int x) (m := 1) (ykc_224 (e := (2, .iload_n kF1, 0)) rfl) rfl rfl ?_
  refine w_load (pc' := 2) (v := .int y) (m := 1) (ykc_224 (e := (2, .iload_n kF2, 0)) rfl) rfl rfl ?_
  refine w_ine (ykc_224 (e := (4, .if_icmp .ne 5, 7)) rfl) rfl (fun b70 => ?_) (fun b70 => ?_)
  · refine w_load (pc' := 8) (v := .int y) (m := 1) (ykc_224 (e := (2, .iload_n kF2, 0)) rfl) rfl rfl ?_
    refine w_load (pc' := 9) (v := .ref 170) (m := 1) (ykc_224 (e := (2, .aload_n kF0, 0)) rfl) rfl rfl ?_
    refine w_gf (pc' := 12) (v := .int (zn C)) (ykc_224 (e := (5, .getfield 27, 0)) rfl) rfl gC rfl ?_
    refine w_idiv (pc' := 13) (ykc_224 (e := (0, .idiv, 0)) rfl) rfl (fun d71 => ?_)
    have e72 : y / (zn C) = zn (g / C) := zn_of (zdivN (by omega) (by omega) (by omega))
    have te72 := znt (k := g / C) (by omega)
    rw [e72]
    show zW n D 224 Q 13 [some (.ref 170), some (.int x), some (.int y), some (.int fa), some (.int ba), some (.int ra), none, none, none] [.int (zn (g / C))] ph
    refine w_load (pc' := 14) (v := .int x) (m := 1) (ykc_224 (e := (2, .iload_n kF1, 0)) rfl) rfl rfl ?_
    refine w_load (pc' := 15) (v := .ref 170) (m := 1) (ykc_224 (e := (2, .aload_n kF0, 0)) rfl) rfl rfl ?_
    refine w_gf (pc' := 18) (v := .int (zn C)) (ykc_224 (e := (5, .getfield 27, 0)) rfl) rfl gC rfl ?_
    refine w_idiv (pc' := 19) (ykc_224 (e := (0, .idiv, 0)) rfl) rfl (fun d73 => ?_)
    have e74 : x / (zn C) = zn (a / C) := zn_of (zdivN (by omega) (by omega) (by omega))
    have te74 := znt (k := a / C) (by omega)
    rw [e74]
    show zW n D 224 Q 19 [some (.ref 170), some (.int x), some (.int y), some (.int fa), some (.int ba), some (.int ra), none, none, none] [.int (zn (a / C)), .int (zn (g / C))] ph
    obtain ⟨z75, e_z75, h_z75⟩ : ∃ zq : Int32, (zn (g / C)) - (zn (a / C)) = zq ∧ zq.toInt = ((g / C : Nat) : Int) - ((a / C : Nat) : Int) := ⟨_, rfl, (by have := ti_sub (x := (zn (g / C))) (y := (zn (a / C))) (by omega) (by omega); omega)⟩
    refine w_alu (pc' := 20) (st' := [.int z75]) (ykc_224 (e := (0, .isub, 0)) rfl) (by rw [← e_z75]; rfl) rfl ?_
    refine w_store (pc' := 22) (L' := [some (.ref 170), some (.int x), some (.int y), some (.int fa), some (.int ba), some (.int ra), some (.int z75), none, none]) (st' := []) (m := 2) (ykc_224 (e := (3, .istore 6, 0)) rfl) rfl rfl ?_
    refine w_load (pc' := 23) (v := .int y) (m := 1) (ykc_224 (e := (2, .iload_n kF2, 0)) rfl) rfl rfl ?_
    refine w_load (pc' := 24) (v := .ref 170) (m := 1) (ykc_224 (e := (2, .aload_n kF0, 0)) rfl) rfl rfl ?_
    refine w_gf (pc' := 27) (v := .int (zn C)) (ykc_224 (e := (5, .getfield 27, 0)) rfl) rfl gC rfl ?_
    refine w_irem (pc' := 28) (ykc_224 (e := (0, .irem, 0)) rfl) rfl (fun d76 => ?_)
    have e77 : y - y / (zn C) * (zn C) = zn (g % C) := zn_of (zremN (by omega) (by omega) (by omega))
    have te77 := znt (k := g % C) (by omega)
    rw [e77]
    show zW n D 224 Q 28 [some (.ref 170), some (.int x), some (.int y), some (.int fa), some (.int ba), some (.int ra), some (.int z75), none, none] [.int (zn (g % C))] ph
    refine w_load (pc' := 29) (v := .int x) (m := 1) (ykc_224 (e := (2, .iload_n kF1, 0)) rfl) rfl rfl ?_
    refine w_load (pc' := 30) (v := .ref 170) (m := 1) (ykc_224 (e := (2, .aload_n kF0, 0)) rfl) rfl rfl ?_
    refine w_gf (pc' := 33) (v := .int (zn C)) (ykc_224 (e := (5, .getfield 27, 0)) rfl) rfl gC rfl ?_
    refine w_irem (pc' := 34) (ykc_224 (e := (0, .irem, 0)) rfl) rfl (fun d78 => ?_)
    have e79 : x - x / (zn C) * (zn C) = zn (a % C) := zn_of (zremN (by omega) (by omega) (by omega))
    have te79 := znt (k := a % C) (by omega)
    rw [e79]
    show zW n D 224 Q 34 [some (.ref 170), some (.int x), some (.int y), some (.int fa), some (.int ba), some (.int ra), some (.int z75), none, none] [.int (zn (a % C)), .int (zn (g % C))] ph
    obtain ⟨z80, e_z80, h_z80⟩ : ∃ zq : Int32, (zn (g % C)) - (zn (a % C)) = zq ∧ zq.toInt = ((g % C : Nat) : Int) - ((a % C : Nat) : Int) := ⟨_, rfl, (by have := ti_sub (x := (zn (g % C))) (y := (zn (a % C))) (by omega) (by omega); omega)⟩
    refine w_alu (pc' := 35) (st' := [.int z80]) (ykc_224 (e := (0, .isub, 0)) rfl) (by rw [← e_z80]; rfl) rfl ?_
    refine w_store (pc' := 37) (L' := [some (.ref 170), some (.int x), some (.int y), some (.int fa), some (.int ba), some (.int ra), some (.int z75), some (.int z80), none]) (st' := []) (m := 2) (ykc_224 (e := (3, .istore 7, 0)) rfl) rfl rfl ?_
    refine w_load (pc' := 39) (v := .int z75) (m := 2) (ykc_224 (e := (2, .iload 6, 0)) rfl) rfl rfl ?_
    obtain ⟨z81, e_z81⟩ : ∃ zq : Int32, (if 0 ≤ z75 then z75 else 0 - z75) = zq := ⟨_, rfl⟩
    have h_z81 := zabsI e_z81
    refine w_mem1 (pc' := 42) (m := 3) (st' := [.int z81]) (ph' := ph) (ykc_224 (e := (5, .invokestatic 276, 0)) rfl) (by rw [← e_z81]; rfl) rfl ?_
    refine w_load (pc' := 44) (v := .int z80) (m := 2) (ykc_224 (e := (2, .iload 7, 0)) rfl) rfl rfl ?_
    obtain ⟨z82, e_z82⟩ : ∃ zq : Int32, (if 0 ≤ z80 then z80 else 0 - z80) = zq := ⟨_, rfl⟩
    have h_z82 := zabsI e_z82
    refine w_mem1 (pc' := 47) (m := 3) (st' := [.int z82, .int z81]) (ph' := ph) (ykc_224 (e := (5, .invokestatic 276, 0)) rfl) (by rw [← e_z82]; rfl) rfl ?_
    obtain ⟨z83, e_z83⟩ : ∃ zq : Int32, (if z81 < z82 then z82 else z81) = zq := ⟨_, rfl⟩
    have h_z83 := zmaxI e_z83
    refine w_mem1 (pc' := 50) (m := 3) (st' := [.int z83]) (ph' := ph) (ykc_224 (e := (5, .invokestatic 273, 0)) rfl) (by rw [← e_z83]; rfl) rfl ?_
    refine w_load (pc' := 52) (v := .int ra) (m := 2) (ykc_224 (e := (2, .iload 5, 0)) rfl) rfl rfl ?_
    refine w_igt (ykc_224 (e := (4, .if_icmp .gt 7, 59)) rfl) rfl (fun b84 => ?_) (fun b84 => ?_)
    · refine w_alu (pc' := 60) (st' := [.int (Int32.ofInt 0)]) (ykc_224 (e := (0, .iconst 0, 0)) rfl) rfl rfl ?_
      refine w_store (pc' := 62) (L' := [some (.ref 170), some (.int x), some (.int y), some (.int fa), some (.int ba), some (.int ra), some (.int z75), some (.int z80), some (.int (Int32.ofInt 0))]) (st' := []) (m := 2) (ykc_224 (e := (3, .istore 8, 0)) rfl) rfl rfl ?_
      refine w_load (pc' := 64) (v := .int (Int32.ofInt 0)) (m := 2) (ykc_224 (e := (2, .iload 8, 0)) rfl) rfl rfl ?_
      refine w_zeq (ykc_224 (e := (4, .ifCond .eq 34, 98)) rfl) rfl (fun b85 => ?_) (fun q => by exfalso; omega)
      refine w_alu (pc' := 99) (st' := [.int (Int32.ofInt 0)]) (ykc_224 (e := (0, .iconst 0, 0)) rfl) rfl rfl ?_
      refine w_ret (v := (some (.int (Int32.ofInt 0)))) (ykc_224 (e := (7, .ireturn, 0)) rfl) zr_z ?_
      have ne : ¬ a = g := by omega
      have d1 : ¬ (max (((g / C : Nat) : Int) - (a / C : Nat)).natAbs (((g % C : Nat) : Int) - (a % C : Nat)).natAbs ≤ re) := by omega
      rw [hQ, zi0]
      exact ⟨rfl, zvB (by unfold zsee; rw [decide_eq_false ne, decide_eq_false d1]; rfl)⟩
    · refine w_alu (pc' := 56) (st' := [.int (Int32.ofInt 1)]) (ykc_224 (e := (0, .iconst 1, 0)) rfl) rfl rfl ?_
      refine w_br (pc' := 60) (st' := [.int (Int32.ofInt 1)]) (ykc_224 (e := (4, .goto 4, 60)) rfl) rfl ?_
      refine w_store (pc' := 62) (L' := [some (.ref 170), some (.int x), some (.int y), some (.int fa), some (.int ba), some (.int ra), some (.int z75), some (.int z80), some (.int (Int32.ofInt 1))]) (st' := []) (m := 2) (ykc_224 (e := (3, .istore 8, 0)) rfl) rfl rfl ?_
      refine w_load (pc' := 64) (v := .int (Int32.ofInt 1)) (m := 2) (ykc_224 (e := (2, .iload 8, 0)) rfl) rfl rfl ?_
      refine w_zeq (ykc_224 (e := (4, .ifCond .eq 34, 98)) rfl) rfl (fun q => by exfalso; omega) (fun b86 => ?_)
      refine w_load (pc' := 69) (v := .int z75) (m := 2) (ykc_224 (e := (2, .iload 6, 0)) rfl) rfl rfl ?_
      refine w_load (pc' := 71) (v := .int z80) (m := 2) (ykc_224 (e := (2, .iload 7, 0)) rfl) rfl rfl ?_
      refine w_cs (as := [.int z75, .int z80]) (r := []) (ykc_224 (e := (6, .invokestatic 282, 0)) rfl) rfl rfl rfl rfl (zm_way (d := ((g / C : Nat) : Int) - ((a / C : Nat) : Int)) (r := ((g % C : Nat) : Int) - ((a % C : Nat) : Int)) (by omega) (by omega) (by omega) (by omega) (by omega) (by omega)) (fun v87 ph88 hv => ?_)
      obtain ⟨rfl, rfl⟩ := hv
      have tw := znt (k := zway (((g / C : Nat) : Int) - ((a / C : Nat) : Int)) (((g % C : Nat) : Int) - ((a % C : Nat) : Int))) (by have := @zway_lt (((g / C : Nat) : Int) - ((a / C : Nat) : Int)) (((g % C : Nat) : Int) - ((a % C : Nat) : Int)); omega)
      have tw8 := @zway_lt (((g / C : Nat) : Int) - ((a / C : Nat) : Int)) (((g % C : Nat) : Int) - ((a % C : Nat) : Int))
      show zW n D 224 Q 74 [some (.ref 170), some (.int x), some (.int y), some (.int fa), some (.int ba), some (.int ra), some (.int z75), some (.int z80), some (.int (Int32.ofInt 1))] [.int (zn (zway (((g / C : Nat) : Int) - ((a / C : Nat) : Int)) (((g % C : Nat) : Int) - ((a % C : Nat) : Int))))] ph
      refine w_load (pc' := 75) (v := .int fa) (m := 1) (ykc_224 (e := (2, .iload_n kF3, 0)) rfl) rfl rfl ?_
      refine w_cs (as := [.int (zn (zway (((g / C : Nat) : Int) - ((a / C : Nat) : Int)) (((g % C : Nat) : Int) - ((a % C : Nat) : Int)))), .int fa]) (r := []) (ykc_224 (e := (6, .invokestatic 285, 0)) rfl) rfl rfl rfl rfl (zm_e8 (a := zway (((g / C : Nat) : Int) - ((a / C : Nat) : Int)) (((g % C : Nat) : Int) - ((a % C : Nat) : Int))) (b := fc) (by omega) (by omega) (by omega) (by omega)) (fun v89 ph90 hv => ?_)
      obtain ⟨rfl, rfl⟩ := hv
      have te := znt (k := ze8 (zway (((g / C : Nat) : Int) - ((a / C : Nat) : Int)) (((g % C : Nat) : Int) - ((a % C : Nat) : Int))) fc) (by unfold ze8; omega)
      show zW n D 224 Q 78 [some (.ref 170), some (.int x), some (.int y), some (.int fa), some (.int ba), some (.int ra), some (.int z75), some (.int z80), some (.int (Int32.ofInt 1))] [.int (zn (ze8 (zway (((g / C : Nat) : Int) - ((a / C : Nat) : Int)) (((g % C : Nat) : Int) - ((a % C : Nat) : Int))) fc))] ph
      refine w_alu (pc' := 79) (st' := [.int (Int32.ofInt 4), .int (zn (ze8 (zway (((g / C : Nat) : Int) - ((a / C : Nat) : Int)) (((g % C : Nat) : Int) - ((a % C : Nat) : Int))) fc))]) (ykc_224 (e := (0, .iconst 4, 0)) rfl) rfl rfl ?_
      refine w_load (pc' := 81) (v := .int ba) (m := 2) (ykc_224 (e := (2, .iload 4, 0)) rfl) rfl rfl ?_
      obtain ⟨z91, e_z91, h_z91⟩ : ∃ zq : Int32, (Int32.ofInt 4) - ba = zq ∧ zq.toInt = (4 : Int) - ((br : Nat) : Int) := ⟨_, rfl, (by have := ti_sub (x := (Int32.ofInt 4)) (y := ba) (by omega) (by omega); omega)⟩
      refine w_alu (pc' := 82) (st' := [.int z91, .int (zn (ze8 (zway (((g / C : Nat) : Int) - ((a / C : Nat) : Int)) (((g % C : Nat) : Int) - ((a % C : Nat) : Int))) fc))]) (ykc_224 (e := (0, .isub, 0)) rfl) (by rw [← e_z91]; rfl) rfl ?_
      refine w_igt (ykc_224 (e := (4, .if_icmp .gt 16, 98)) rfl) rfl (fun b92 => ?_) (fun b92 => ?_)
      · refine w_alu (pc' := 99) (st' := [.int (Int32.ofInt 0)]) (ykc_224 (e := (0, .iconst 0, 0)) rfl) rfl rfl ?_
        refine w_ret (v := (some (.int (Int32.ofInt 0)))) (ykc_224 (e := (7, .ireturn, 0)) rfl) zr_z ?_
        have ne : ¬ a = g := by omega
        have d1 : (max (((g / C : Nat) : Int) - (a / C : Nat)).natAbs (((g % C : Nat) : Int) - (a % C : Nat)).natAbs ≤ re) := by omega
        have d2 : ¬ (ze8 (zway (((g / C : Nat) : Int) - (a / C : Nat)) (((g % C : Nat) : Int) - (a % C : Nat))) fc + br ≤ 4) := by omega
        rw [hQ, zi0]
        exact ⟨rfl, zvB (by unfold zsee; rw [decide_eq_false ne, decide_eq_true d1, decide_eq_false d2]; rfl)⟩
      · refine w_load (pc' := 86) (v := .ref 170) (m := 1) (ykc_224 (e := (2, .aload_n kF0, 0)) rfl) rfl rfl ?_
        refine w_load (pc' := 87) (v := .int x) (m := 1) (ykc_224 (e := (2, .iload_n kF1, 0)) rfl) rfl rfl ?_
        refine w_load (pc' := 88) (v := .int y) (m := 1) (ykc_224 (e := (2, .iload_n kF2, 0)) rfl) rfl rfl ?_
        refine w_cv (as := [.ref 170, .int x, .int y]) (r := []) (ykc_224 (e := (6, .invokevirtual 288, 0)) rfl) rfl rfl rfl rfl (zm_clear hS hL0 (a := a) (g := g) (by omega) (by omega) (by omega) (by omega)) (fun v93 ph94 hv => ?_)
        obtain ⟨rfl, rfl⟩ := hv
        show zW n D 224 Q 91 [some (.ref 170), some (.int x), some (.int y), some (.int fa), some (.int ba), some (.int ra), some (.int z75), some (.int z80), some (.int (Int32.ofInt 1))] [.int (zI (zclr C rk a g 7))] ph
        refine w_beq (ykc_224 (e := (4, .ifCond .eq 7, 98)) rfl) rfl (fun b95 => ?_) (fun b95 => ?_)
        · refine w_alu (pc' := 99) (st' := [.int (Int32.ofInt 0)]) (ykc_224 (e := (0, .iconst 0, 0)) rfl) rfl rfl ?_
          refine w_ret (v := (some (.int (Int32.ofInt 0)))) (ykc_224 (e := (7, .ireturn, 0)) rfl) zr_z ?_
          have ne : ¬ a = g := by omega
          have d1 : (max (((g / C : Nat) : Int) - (a / C : Nat)).natAbs (((g % C : Nat) : Int) - (a % C : Nat)).natAbs ≤ re) := by omega
          have d2 : (ze8 (zway (((g / C : Nat) : Int) - (a / C : Nat)) (((g % C : Nat) : Int) - (a % C : Nat))) fc + br ≤ 4) := by omega
          rw [hQ, zi0]
          exact ⟨rfl, zvB (by unfold zsee; rw [decide_eq_false ne, decide_eq_true d1, decide_eq_true d2, b95]; rfl)⟩
        · refine w_alu (pc' := 95) (st' := [.int (Int32.ofInt 1)]) (ykc_224 (e := (0, .iconst 1, 0)) rfl) rfl rfl ?_
          refine w_br (pc' := 99) (st' := [.int (Int32.ofInt 1)]) (ykc_224 (e := (4, .goto 4, 99)) rfl) rfl ?_
          refine w_ret (v := (some (.int (Int32.ofInt 1)))) (ykc_224 (e := (7, .ireturn, 0)) rfl) zr_z ?_
          have ne : ¬ a = g := by omega
          have d1 : (max (((g / C : Nat) : Int) - (a / C : Nat)).natAbs (((g % C : Nat) : Int) - (a % C : Nat)).natAbs ≤ re) := by omega
          have d2 : (ze8 (zway (((g / C : Nat) : Int) - (a / C : Nat)) (((g % C : Nat) : Int) - (a % C : Nat))) fc + br ≤ 4) := by omega
          rw [hQ, zi1]
          exact ⟨rfl, zvB (by unfold zsee; rw [decide_eq_false ne, decide_eq_true d1, decide_eq_true d2, b95]; rfl)⟩
  · refine w_alu (pc' := 6) (st' := [.int (Int32.ofInt 1)]) (ykc_224 (e := (0, .iconst 1, 0)) rfl) rfl rfl ?_
    refine w_ret (v := (some (.int (Int32.ofInt 1)))) (ykc_224 (e := (7, .ireturn, 0)) rfl) zr_z ?_
    rw [hQ, zi1]
    have e : a = g := by omega
    exact ⟨rfl, zvB (by unfold zsee; simp [e])⟩
end
section
/-! the reference: REACH, what one SEES, sets, by W; printed by wip/z/z_d_seem.py -/
def zpi1 (x : Int32) : Int32 := x - ((((x).toUInt32 >>> ((Int32.ofInt 1).toUInt32 &&& Int32.toUInt32 31)).toInt32) &&& (1431655765 : Int32))
def zpi2 (x : Int32) : Int32 := ((x) &&& (858993459 : Int32)) + ((((x).toUInt32 >>> ((Int32.ofInt 2).toUInt32 &&& Int32.toUInt32 31)).toInt32) &&& (858993459 : Int32))
def zpi3 (x : Int32) : Int32 := ((x) + (((x).toUInt32 >>> ((Int32.ofInt 4).toUInt32 &&& Int32.toUInt32 31)).toInt32)) &&& (252645135 : Int32)
def zpi4 (x : Int32) : Int32 := (x) + (((x).toUInt32 >>> (((Int8.ofInt 8).toInt32).toUInt32 &&& Int32.toUInt32 31)).toInt32)
def zpi5 (x : Int32) : Int32 := (x) + (((x).toUInt32 >>> (((Int8.ofInt 16).toInt32).toUInt32 &&& Int32.toUInt32 31)).toInt32)
def zpi6 (x : Int32) : Int32 := (x) &&& ((Int8.ofInt 63).toInt32)
def zpl1 (x : Int64) : Int64 := x - (((x.toUInt64 >>> ((Int32.ofInt 1).toInt64.toUInt64 &&& Int64.toUInt64 63)).toInt64) &&& (6148914691236517205 : Int64))
def zpl2 (x : Int64) : Int64 := ((x) &&& (3689348814741910323 : Int64)) + ((((x).toUInt64 >>> ((Int32.ofInt 2).toInt64.toUInt64 &&& Int64.toUInt64 63)).toInt64) &&& (3689348814741910323 : Int64))
def zpl3 (x : Int64) : Int64 := ((x) + (((x).toUInt64 >>> ((Int32.ofInt 4).toInt64.toUInt64 &&& Int64.toUInt64 63)).toInt64)) &&& (1085102592571150095 : Int64)
def zpl4 (x : Int64) : Int64 := (x) + (((x).toUInt64 >>> (((Int8.ofInt 8).toInt32).toInt64.toUInt64 &&& Int64.toUInt64 63)).toInt64)
def zpl5 (x : Int64) : Int64 := (x) + (((x).toUInt64 >>> (((Int8.ofInt 16).toInt32).toInt64.toUInt64 &&& Int64.toUInt64 63)).toInt64)
def zpl6 (x : Int64) : Int64 := (x) + (((x).toUInt64 >>> (((Int8.ofInt 32).toInt32).toInt64.toUInt64 &&& Int64.toUInt64 63)).toInt64)
def zpl7 (x : Int64) : Int32 := ((x).toInt32) &&& ((Int8.ofInt 127).toInt32)
def zpc (x : Int32) : Int32 := zpi6 (zpi5 (zpi4 (zpi3 (zpi2 (zpi1 x)))))
def zpcl (x : Int64) : Int32 := zpl7 (zpl6 (zpl5 (zpl4 (zpl3 (zpl2 (zpl1 x))))))
theorem zj_pc {x : Int32} {ph : pm_H} : zM 303 [.int x] ph (fun v q => ph = q ∧ v = some (.int (zpc x))) := by
  obtain ⟨Q, hQ⟩ : ∃ Q : Option Value → pm_H → Prop, Q = (fun v q => ph = q ∧ v = some (.int (zpc x))) := ⟨_, rfl⟩
  rw [← hQ]
  refine zM_mk fun n D => ?_
  show zW n D 303 Q 0 [some (.int x)] [] ph
  have c_0 : ((1431655765 : Int32)).toInt = 1431655765 := by decide
  have c_1 : ((252645135 : Int32)).toInt = 252645135 := by decide
  have c_2 : ((858993459 : Int32)).toInt = 858993459 := by decide
  have c_3 : ((Int8.ofInt 16).toInt32).toInt = 16 := by decide
  have c_4 : ((Int8.ofInt 63).toInt32).toInt = 63 := by decide
  have c_5 : ((Int8.ofInt 8).toInt32).toInt = 8 := by decide
  have c_6 : (Int32.ofInt 1).toInt = 1 := by decide
  have c_7 : (Int32.ofInt 2).toInt = 2 := by decide
  have c_8 : (Int32.ofInt 4).toInt = 4 := by decide
  refine w_load (pc' := 1) (v := .int x) (m := 1) (ykc_303 (e := (2, .iload_n kF0, 0)) rfl) rfl rfl ?_
  refine w_load (pc' := 2) (v := .int x) (m := 1) (ykc_303 (e := (2, .iload_n kF0, 0)) rfl) rfl rfl ?_
  refine w_alu (pc' := 3) (st' := [.int (Int32.ofInt 1), .int x, .int x]) (ykc_303 (e := (0, .iconst 1, 0)) rfl) rfl rfl ?_
  refine w_alu (pc' := 4) (st' := [.int (((x).toUInt32 >>> ((Int32.ofInt 1).toUInt32 &&& Int32.toUInt32 31)).toInt32), .int x]) (ykc_303 (e := (0, .iushr, 0)) rfl) rfl rfl ?_
  refine w_push (pc' := 7) (v := .int (1431655765 : Int32)) (m := 3) (ykc_303 (e := (1, .ldc_w 265, 0)) rfl) rfl rfl ?_
  refine w_alu (pc' := 8) (st' := [.int ((((x).toUInt32 >>> ((Int32.ofInt 1).toUInt32 &&& Int32.toUInt32 31)).toInt32) &&& (1431655765 : Int32)), .int x]) (ykc_303 (e := (0, .iand, 0)) rfl) rfl rfl ?_
  refine w_alu (pc' := 9) (st' := [.int (zpi1 x)]) (ykc_303 (e := (0, .isub, 0)) rfl) rfl rfl ?_
  refine w_store (pc' := 10) (L' := [some (.int (zpi1 x))]) (st' := []) (m := 1) (ykc_303 (e := (3, .istore_n kF0, 0)) rfl) rfl rfl ?_
  refine w_load (pc' := 11) (v := .int (zpi1 x)) (m := 1) (ykc_303 (e := (2, .iload_n kF0, 0)) rfl) rfl rfl ?_
  refine w_push (pc' := 14) (v := .int (858993459 : Int32)) (m := 3) (ykc_303 (e := (1, .ldc_w 266, 0)) rfl) rfl rfl ?_
  refine w_alu (pc' := 15) (st' := [.int ((zpi1 x) &&& (858993459 : Int32))]) (ykc_303 (e := (0, .iand, 0)) rfl) rfl rfl ?_
  refine w_load (pc' := 16) (v := .int (zpi1 x)) (m := 1) (ykc_303 (e := (2, .iload_n kF0, 0)) rfl) rfl rfl ?_
  refine w_alu (pc' := 17) (st' := [.int (Int32.ofInt 2), .int (zpi1 x), .int ((zpi1 x) &&& (858993459 : Int32))]) (ykc_303 (e := (0, .iconst 2, 0)) rfl) rfl rfl ?_
  refine w_alu (pc' := 18) (st' := [.int (((zpi1 x).toUInt32 >>> ((Int32.ofInt 2).toUInt32 &&& Int32.toUInt32 31)).toInt32), .int ((zpi1 x) &&& (858993459 : Int32))]) (ykc_303 (e := (0, .iushr, 0)) rfl) rfl rfl ?_
  refine w_push (pc' := 21) (v := .int (858993459 : Int32)) (m := 3) (ykc_303 (e := (1, .ldc_w 266, 0)) rfl) rfl rfl ?_
  refine w_alu (pc' := 22) (st' := [.int ((((zpi1 x).toUInt32 >>> ((Int32.ofInt 2).toUInt32 &&& Int32.toUInt32 31)).toInt32) &&& (858993459 : Int32)), .int ((zpi1 x) &&& (858993459 : Int32))]) (ykc_303 (e := (0, .iand, 0)) rfl) rfl rfl ?_
  refine w_alu (pc' := 23) (st' := [.int (zpi2 (zpi1 x))]) (ykc_303 (e := (0, .iadd, 0)) rfl) rfl rfl ?_
  refine w_store (pc' := 24) (L' := [some (.int (zpi2 (zpi1 x)))]) (st' := []) (m := 1) (ykc_303 (e := (3, .istore_n kF0, 0)) rfl) rfl rfl ?_
  refine w_load (pc' := 25) (v := .int (zpi2 (zpi1 x))) (m := 1) (ykc_303 (e := (2, .iload_n kF0, 0)) rfl) rfl rfl ?_
  refine w_load (pc' := 26) (v := .int (zpi2 (zpi1 x))) (m := 1) (ykc_303 (e := (2, .iload_n kF0, 0)) rfl) rfl rfl ?_
  refine w_alu (pc' := 27) (st' := [.int (Int32.ofInt 4), .int (zpi2 (zpi1 x)), .int (zpi2 (zpi1 x))]) (ykc_303 (e := (0, .iconst 4, 0)) rfl) rfl rfl ?_
  refine w_alu (pc' := 28) (st' := [.int (((zpi2 (zpi1 x)).toUInt32 >>> ((Int32.ofInt 4).toUInt32 &&& Int32.toUInt32 31)).toInt32), .int (zpi2 (zpi1 x))]) (ykc_303 (e := (0, .iushr, 0)) rfl) rfl rfl ?_
  refine w_alu (pc' := 29) (st' := [.int ((zpi2 (zpi1 x)) + (((zpi2 (zpi1 x)).toUInt32 >>> ((Int32.ofInt 4).toUInt32 &&& Int32.toUInt32 31)).toInt32))]) (ykc_303 (e := (0, .iadd, 0)) rfl) rfl rfl ?_
  refine w_push (pc' := 32) (v := .int (252645135 : Int32)) (m := 3) (ykc_303 (e := (1, .ldc_w 267, 0)) rfl) rfl rfl ?_
  refine w_alu (pc' := 33) (st' := [.int (zpi3 (zpi2 (zpi1 x)))]) (ykc_303 (e := (0, .iand, 0)) rfl) rfl rfl ?_
  refine w_store (pc' := 34) (L' := [some (.int (zpi3 (zpi2 (zpi1 x))))]) (st' := []) (m := 1) (ykc_303 (e := (3, .istore_n kF0, 0)) rfl) rfl rfl ?_
  refine w_load (pc' := 35) (v := .int (zpi3 (zpi2 (zpi1 x)))) (m := 1) (ykc_303 (e := (2, .iload_n kF0, 0)) rfl) rfl rfl ?_
  refine w_load (pc' := 36) (v := .int (zpi3 (zpi2 (zpi1 x)))) (m := 1) (ykc_303 (e := (2, .iload_n kF0, 0)) rfl) rfl rfl ?_
  refine w_push (pc' := 38) (v := .int ((Int8.ofInt 8).toInt32)) (m := 2) (ykc_303 (e := (1, .bipush 8, 0)) rfl) rfl rfl ?_
  refine w_alu (pc' := 39) (st' := [.int (((zpi3 (zpi2 (zpi1 x))).toUInt32 >>> (((Int8.ofInt 8).toInt32).toUInt32 &&& Int32.toUInt32 31)).toInt32), .int (zpi3 (zpi2 (zpi1 x)))]) (ykc_303 (e := (0, .iushr, 0)) rfl) rfl rfl ?_
  refine w_alu (pc' := 40) (st' := [.int (zpi4 (zpi3 (zpi2 (zpi1 x))))]) (ykc_303 (e := (0, .iadd, 0)) rfl) rfl rfl ?_
  refine w_store (pc' := 41) (L' := [some (.int (zpi4 (zpi3 (zpi2 (zpi1 x)))))]) (st' := []) (m := 1) (ykc_303 (e := (3, .istore_n kF0, 0)) rfl) rfl rfl ?_
  refine w_load (pc' := 42) (v := .int (zpi4 (zpi3 (zpi2 (zpi1 x))))) (m := 1) (ykc_303 (e := (2, .iload_n kF0, 0)) rfl) rfl rfl ?_
  refine w_load (pc' := 43) (v := .int (zpi4 (zpi3 (zpi2 (zpi1 x))))) (m := 1) (ykc_303 (e := (2, .iload_n kF0, 0)) rfl) rfl rfl ?_
  refine w_push (pc' := 45) (v := .int ((Int8.ofInt 16).toInt32)) (m := 2) (ykc_303 (e := (1, .bipush 16, 0)) rfl) rfl rfl ?_
  refine w_alu (pc' := 46) (st' := [.int (((zpi4 (zpi3 (zpi2 (zpi1 x)))).toUInt32 >>> (((Int8.ofInt 16).toInt32).toUInt32 &&& Int32.toUInt32 31)).toInt32), .int (zpi4 (zpi3 (zpi2 (zpi1 x))))]) (ykc_303 (e := (0, .iushr, 0)) rfl) rfl rfl ?_
  refine w_alu (pc' := 47) (st' := [.int (zpi5 (zpi4 (zpi3 (zpi2 (zpi1 x)))))]) (ykc_303 (e := (0, .iadd, 0)) rfl) rfl rfl ?_
  refine w_store (pc' := 48) (L' := [some (.int (zpi5 (zpi4 (zpi3 (zpi2 (zpi1 x))))))]) (st' := []) (m := 1) (ykc_303 (e := (3, .istore_n kF0, 0)) rfl) rfl rfl ?_
  refine w_load (pc' := 49) (v := .int (zpi5 (zpi4 (zpi3 (zpi2 (zpi1 x)))))) (m := 1) (ykc_303 (e := (2, .iload_n kF0, 0)) rfl) rfl rfl ?_
  refine w_push (pc' := 51) (v := .int ((Int8.ofInt 63).toInt32)) (m := 2) (ykc_303 (e := (1, .bipush 63, 0)) rfl) rfl rfl ?_
  refine w_alu (pc' := 52) (st' := [.int (zpi6 (zpi5 (zpi4 (zpi3 (zpi2 (zpi1 x))))))]) (ykc_303 (e := (0, .iand, 0)) rfl) rfl rfl ?_
  refine w_ret (v := (some (.int (zpi6 (zpi5 (zpi4 (zpi3 (zpi2 (zpi1 x))))))))) (ykc_303 (e := (7, .ireturn, 0)) rfl) (zr_v rfl) ?_
  rw [hQ]
  exact ⟨rfl, rfl⟩
theorem zj_pcl {x : Int64} {ph : pm_H} : zM 305 [.long x] ph (fun v q => ph = q ∧ v = some (.int (zpcl x))) := by
  obtain ⟨Q, hQ⟩ : ∃ Q : Option Value → pm_H → Prop, Q = (fun v q => ph = q ∧ v = some (.int (zpcl x))) := ⟨_, rfl⟩
  rw [← hQ]
  refine zM_mk fun n D => ?_
  show zW n D 305 Q 0 [some (.long x), none] [] ph
  have c_0 : ((Int8.ofInt 127).toInt32).toInt = 127 := by decide
  have c_1 : ((Int8.ofInt 16).toInt32).toInt = 16 := by decide
  have c_2 : ((Int8.ofInt 32).toInt32).toInt = 32 := by decide
  have c_3 : ((Int8.ofInt 8).toInt32).toInt = 8 := by decide
  have c_4 : (Int32.ofInt 1).toInt = 1 := by decide
  have c_5 : (Int32.ofInt 2).toInt = 2 := by decide
  have c_6 : (Int32.ofInt 4).toInt = 4 := by decide
  refine w_load (pc' := 1) (v := .long x) (m := 1) (ykc_305 (e := (2, .lload_n kF0, 0)) rfl) rfl rfl ?_
  refine w_load (pc' := 2) (v := .long x) (m := 1) (ykc_305 (e := (2, .lload_n kF0, 0)) rfl) rfl rfl ?_
  refine w_alu (pc' := 3) (st' := [.int (Int32.ofInt 1), .long x, .long x]) (ykc_305 (e := (0, .iconst 1, 0)) rfl) rfl rfl ?_
  refine w_alu (pc' := 4) (st' := [.long ((x.toUInt64 >>> ((Int32.ofInt 1).toInt64.toUInt64 &&& Int64.toUInt64 63)).toInt64), .long x]) (ykc_305 (e := (0, .lushr, 0)) rfl) rfl rfl ?_
  refine w_push (pc' := 7) (v := .long (6148914691236517205 : Int64)) (m := 3) (ykc_305 (e := (1, .ldc2_w 314, 0)) rfl) rfl rfl ?_
  refine w_alu (pc' := 8) (st' := [.long (((x.toUInt64 >>> ((Int32.ofInt 1).toInt64.toUInt64 &&& Int64.toUInt64 63)).toInt64) &&& (6148914691236517205 : Int64)), .long x]) (ykc_305 (e := (0, .land, 0)) rfl) rfl rfl ?_
  refine w_alu (pc' := 9) (st' := [.long (zpl1 x)]) (ykc_305 (e := (0, .lsub, 0)) rfl) rfl rfl ?_
  refine w_store (pc' := 10) (L' := [some (.long (zpl1 x)), none]) (st' := []) (m := 1) (ykc_305 (e := (3, .lstore_n kF0, 0)) rfl) rfl rfl ?_
  refine w_load (pc' := 11) (v := .long (zpl1 x)) (m := 1) (ykc_305 (e := (2, .lload_n kF0, 0)) rfl) rfl rfl ?_
  refine w_push (pc' := 14) (v := .long (3689348814741910323 : Int64)) (m := 3) (ykc_305 (e := (1, .ldc2_w 316, 0)) rfl) rfl rfl ?_
  refine w_alu (pc' := 15) (st' := [.long ((zpl1 x) &&& (3689348814741910323 : Int64))]) (ykc_305 (e := (0, .land, 0)) rfl) rfl rfl ?_
  refine w_load (pc' := 16) (v := .long (zpl1 x)) (m := 1) (ykc_305 (e := (2, .lload_n kF0, 0)) rfl) rfl rfl ?_
  refine w_alu (pc' := 17) (st' := [.int (Int32.ofInt 2), .long (zpl1 x), .long ((zpl1 x) &&& (3689348814741910323 : Int64))]) (ykc_305 (e := (0, .iconst 2, 0)) rfl) rfl rfl ?_
  refine w_alu (pc' := 18) (st' := [.long (((zpl1 x).toUInt64 >>> ((Int32.ofInt 2).toInt64.toUInt64 &&& Int64.toUInt64 63)).toInt64), .long ((zpl1 x) &&& (3689348814741910323 : Int64))]) (ykc_305 (e := (0, .lushr, 0)) rfl) rfl rfl ?_
  refine w_push (pc' := 21) (v := .long (3689348814741910323 : Int64)) (m := 3) (ykc_305 (e := (1, .ldc2_w 316, 0)) rfl) rfl rfl ?_
  refine w_alu (pc' := 22) (st' := [.long ((((zpl1 x).toUInt64 >>> ((Int32.ofInt 2).toInt64.toUInt64 &&& Int64.toUInt64 63)).toInt64) &&& (3689348814741910323 : Int64)), .long ((zpl1 x) &&& (3689348814741910323 : Int64))]) (ykc_305 (e := (0, .land, 0)) rfl) rfl rfl ?_
  refine w_alu (pc' := 23) (st' := [.long (zpl2 (zpl1 x))]) (ykc_305 (e := (0, .ladd, 0)) rfl) rfl rfl ?_
  refine w_store (pc' := 24) (L' := [some (.long (zpl2 (zpl1 x))), none]) (st' := []) (m := 1) (ykc_305 (e := (3, .lstore_n kF0, 0)) rfl) rfl rfl ?_
  refine w_load (pc' := 25) (v := .long (zpl2 (zpl1 x))) (m := 1) (ykc_305 (e := (2, .lload_n kF0, 0)) rfl) rfl rfl ?_
  refine w_load (pc' := 26) (v := .long (zpl2 (zpl1 x))) (m := 1) (ykc_305 (e := (2, .lload_n kF0, 0)) rfl) rfl rfl ?_
  refine w_alu (pc' := 27) (st' := [.int (Int32.ofInt 4), .long (zpl2 (zpl1 x)), .long (zpl2 (zpl1 x))]) (ykc_305 (e := (0, .iconst 4, 0)) rfl) rfl rfl ?_
  refine w_alu (pc' := 28) (st' := [.long (((zpl2 (zpl1 x)).toUInt64 >>> ((Int32.ofInt 4).toInt64.toUInt64 &&& Int64.toUInt64 63)).toInt64), .long (zpl2 (zpl1 x))]) (ykc_305 (e := (0, .lushr, 0)) rfl) rfl rfl ?_
  refine w_alu (pc' := 29) (st' := [.long ((zpl2 (zpl1 x)) + (((zpl2 (zpl1 x)).toUInt64 >>> ((Int32.ofInt 4).toInt64.toUInt64 &&& Int64.toUInt64 63)).toInt64))]) (ykc_305 (e := (0, .ladd, 0)) rfl) rfl rfl ?_
  refine w_push (pc' := 32) (v := .long (1085102592571150095 : Int64)) (m := 3) (ykc_305 (e := (1, .ldc2_w 318, 0)) rfl) rfl rfl ?_
  refine w_alu (pc' := 33) (st' := [.long (zpl3 (zpl2 (zpl1 x)))]) (ykc_305 (e := (0, .land, 0)) rfl) rfl rfl ?_
  refine w_store (pc' := 34) (L' := [some (.long (zpl3 (zpl2 (zpl1 x)))), none]) (st' := []) (m := 1) (ykc_305 (e := (3, .lstore_n kF0, 0)) rfl) rfl rfl ?_
  refine w_load (pc' := 35) (v := .long (zpl3 (zpl2 (zpl1 x)))) (m := 1) (ykc_305 (e := (2, .lload_n kF0, 0)) rfl) rfl rfl ?_
  refine w_load (pc' := 36) (v := .long (zpl3 (zpl2 (zpl1 x)))) (m := 1) (ykc_305 (e := (2, .lload_n kF0, 0)) rfl) rfl rfl ?_
  refine w_push (pc' := 38) (v := .int ((Int8.ofInt 8).toInt32)) (m := 2) (ykc_305 (e := (1, .bipush 8, 0)) rfl) rfl rfl ?_
  refine w_alu (pc' := 39) (st' := [.long (((zpl3 (zpl2 (zpl1 x))).toUInt64 >>> (((Int8.ofInt 8).toInt32).toInt64.toUInt64 &&& Int64.toUInt64 63)).toInt64), .long (zpl3 (zpl2 (zpl1 x)))]) (ykc_305 (e := (0, .lushr, 0)) rfl) rfl rfl ?_
  refine w_alu (pc' := 40) (st' := [.long (zpl4 (zpl3 (zpl2 (zpl1 x))))]) (ykc_305 (e := (0, .ladd, 0)) rfl) rfl rfl ?_
  refine w_store (pc' := 41) (L' := [some (.long (zpl4 (zpl3 (zpl2 (zpl1 x))))), none]) (st' := []) (m := 1) (ykc_305 (e := (3, .lstore_n kF0, 0)) rfl) rfl rfl ?_
  refine w_load (pc' := 42) (v := .long (zpl4 (zpl3 (zpl2 (zpl1 x))))) (m := 1) (ykc_305 (e := (2, .lload_n kF0, 0)) rfl) rfl rfl ?_
  refine w_load (pc' := 43) (v := .long (zpl4 (zpl3 (zpl2 (zpl1 x))))) (m := 1) (ykc_305 (e := (2, .lload_n kF0, 0)) rfl) rfl rfl ?_
  refine w_push (pc' := 45) (v := .int ((Int8.ofInt 16).toInt32)) (m := 2) (ykc_305 (e := (1, .bipush 16, 0)) rfl) rfl rfl ?_
  refine w_alu (pc' := 46) (st' := [.long (((zpl4 (zpl3 (zpl2 (zpl1 x)))).toUInt64 >>> (((Int8.ofInt 16).toInt32).toInt64.toUInt64 &&& Int64.toUInt64 63)).toInt64), .long (zpl4 (zpl3 (zpl2 (zpl1 x))))]) (ykc_305 (e := (0, .lushr, 0)) rfl) rfl rfl ?_
  refine w_alu (pc' := 47) (st' := [.long (zpl5 (zpl4 (zpl3 (zpl2 (zpl1 x)))))]) (ykc_305 (e := (0, .ladd, 0)) rfl) rfl rfl ?_
  refine w_store (pc' := 48) (L' := [some (.long (zpl5 (zpl4 (zpl3 (zpl2 (zpl1 x)))))), none]) (st' := []) (m := 1) (ykc_305 (e := (3, .lstore_n kF0, 0)) rfl) rfl rfl ?_
  refine w_load (pc' := 49) (v := .long (zpl5 (zpl4 (zpl3 (zpl2 (zpl1 x)))))) (m := 1) (ykc_305 (e := (2, .lload_n kF0, 0)) rfl) rfl rfl ?_
  refine w_load (pc' := 50) (v := .long (zpl5 (zpl4 (zpl3 (zpl2 (zpl1 x)))))) (m := 1) (ykc_305 (e := (2, .lload_n kF0, 0)) rfl) rfl rfl ?_
  refine w_push (pc' := 52) (v := .int ((Int8.ofInt 32).toInt32)) (m := 2) (ykc_305 (e := (1, .bipush 32, 0)) rfl) rfl rfl ?_
  refine w_alu (pc' := 53) (st' := [.long (((zpl5 (zpl4 (zpl3 (zpl2 (zpl1 x))))).toUInt64 >>> (((Int8.ofInt 32).toInt32).toInt64.toUInt64 &&& Int64.toUInt64 63)).toInt64), .long (zpl5 (zpl4 (zpl3 (zpl2 (zpl1 x)))))]) (ykc_305 (e := (0, .lushr, 0)) rfl) rfl rfl ?_
  refine w_alu (pc' := 54) (st' := [.long (zpl6 (zpl5 (zpl4 (zpl3 (zpl2 (zpl1 x))))))]) (ykc_305 (e := (0, .ladd, 0)) rfl) rfl rfl ?_
  refine w_store (pc' := 55) (L' := [some (.long (zpl6 (zpl5 (zpl4 (zpl3 (zpl2 (zpl1 x))))))), none]) (st' := []) (m := 1) (ykc_305 (e := (3, .lstore_n kF0, 0)) rfl) rfl rfl ?_
  refine w_load (pc' := 56) (v := .long (zpl6 (zpl5 (zpl4 (zpl3 (zpl2 (zpl1 x))))))) (m := 1) (ykc_305 (e := (2, .lload_n kF0, 0)) rfl) rfl rfl ?_
  refine w_alu (pc' := 57) (st' := [.int ((zpl6 (zpl5 (zpl4 (zpl3 (zpl2 (zpl1 x)))))).toInt32)]) (ykc_305 (e := (0, .l2i, 0)) rfl) rfl rfl ?_
  refine w_push (pc' := 59) (v := .int ((Int8.ofInt 127).toInt32)) (m := 2) (ykc_305 (e := (1, .bipush 127, 0)) rfl) rfl rfl ?_
  refine w_alu (pc' := 60) (st' := [.int (zpl7 (zpl6 (zpl5 (zpl4 (zpl3 (zpl2 (zpl1 x)))))))]) (ykc_305 (e := (0, .iand, 0)) rfl) rfl rfl ?_
  refine w_ret (v := (some (.int (zpl7 (zpl6 (zpl5 (zpl4 (zpl3 (zpl2 (zpl1 x)))))))))) (ykc_305 (e := (7, .ireturn, 0)) rfl) (zr_v rfl) ?_
  rw [hQ]
  exact ⟨rfl, rfl⟩
/-- one place of a function -/
def zup (f : Nat → Int32) (i : Nat) (x : Int32) : Nat → Int32 := fun j => if j = i then x else f j
theorem zup_i {f : Nat → Int32} {i : Nat} {x : Int32} : zup f i x i = x := if_pos rfl
theorem zup_n {f : Nat → Int32} {i j : Nat} {x : Int32} (h : j ≠ i) : zup f i x j = f j := if_neg h
/-- what an act of the RULE comes to -/
def zwk (c : Nat) (a b : Int32) : Int32 := if c = 0 then zI (decide (a.toInt < b.toInt)) else if c = 1 then zI (decide (b.toInt < a.toInt)) else if c = 2 then zI (decide (a.toInt = b.toInt)) else if c = 3 then a + b else if c = 4 then a - b else if c = 5 then a * b else if b.toInt = 0 then Int32.ofInt 0 else a / b
/-- how many stand on the stack behind k codes, and what -/
def ztp (cd : Nat → Nat) : Nat → Nat
  | 0 => 0
  | k + 1 => if cd k = 3000 then ztp cd k else if 2000 ≤ cd k then ztp cd k - 1 else ztp cd k + 1
def zsk (as : Nat → Int32) (cd : Nat → Nat) : Nat → Nat → Int32
  | 0 => fun _ => 0
  | k + 1 => if cd k = 3000 then zup (zsk as cd k) (ztp cd k - 1) (-(zsk as cd k (ztp cd k - 1))) else if 2000 ≤ cd k then zup (zsk as cd k) (ztp cd k - 2) (zwk (cd k - 2000) (zsk as cd k (ztp cd k - 2)) (zsk as cd k (ztp cd k - 1))) else zup (zsk as cd k) (ztp cd k) (if 1000 ≤ cd k then as (cd k - 1000) else zn (cd k))
/-- the codes are in order: nothing is taken from an empty stack -/
def zcg (cn : Nat) (cd : Nat → Nat) : Prop := (0 < cn → 1 ≤ ztp cd cn) ∧ ∀ k, k < cn → (cd k = 3000 → 1 ≤ ztp cd k) ∧ (2000 ≤ cd k → cd k ≠ 3000 → 2 ≤ ztp cd k) ∧ (cd k < 1000 ∨ (1000 ≤ cd k ∧ cd k < 1008) ∨ (2000 ≤ cd k ∧ cd k < 2007) ∨ cd k = 3000)
def zval (as : Nat → Int32) (cn : Nat) (cd : Nat → Nat) : Int32 := if cn = 0 then as 1 - as 0 else zsk as cd cn 0
def zrc (x : Int32) : Nat := (max 0 (min 9 x.toInt)).toNat
/-- how many of those before q stand there -/
def zct (v : Nat → Nat) (f : Nat) : Nat → Nat
  | 0 => 0
  | q + 1 => zct v f q + (if v q = f then 1 else 0)
theorem zct_le {v : Nat → Nat} {f q : Nat} : zct v f q ≤ q := by
  induction q with
  | zero => exact Nat.le_refl 0
  | succ q ih => unfold zct; split <;> omega
/-- the valley, light and rule at once -/
abbrev zEn : Type := Nat × Nat × (Nat → Bool) × Nat × (Nat → Nat) × Nat × (Nat → Nat)
def zas (E : zEn) (P : Nat) (v : Nat → Nat) (p br i : Nat) : Int32 := if i = 0 then zn br else if i = 1 then zn (E.2.2.2.2.1 (v 40 % E.2.2.2.1)) else if i = 2 then zpc (zn (v (24 + p))) else if i = 3 then zn (v (8 + p)) else if i = 4 then zn (v p / E.2.1) else if i = 5 then zn (v p % E.2.1) else if i = 6 then zn (v 40 % 7) else zn (zct v (v p) P)
def zRe (E : zEn) (P : Nat) (v : Nat → Nat) (p br : Nat) : Nat := zrc (zval (zas E P v p br) E.2.2.2.2.2.1 E.2.2.2.2.2.2)
theorem zRe_9 {E : zEn} {P : Nat} {v : Nat → Nat} {p br : Nat} : zRe E P v p br ≤ 9 := by unfold zRe zrc; omega
/-- with a BRIM, a FACING and its REACH; as it is -/
def zSw (E : zEn) (P : Nat) (v : Nat → Nat) (p fc br g : Nat) : Bool := zsee E.2.1 E.2.2.1 (v p) g fc br (zRe E P v p br)
def zSv (E : zEn) (P : Nat) (v : Nat → Nat) (p g : Nat) : Bool := zSw E P v p (v (8 + p)) (v (16 + p)) g
/-- sets: of FIELDS, of PEOPLE or THINGS -/
noncomputable def zS (f : Nat → Bool) : Nat → Int64
  | 0 => Int64.ofNat kG0
  | k + 1 => zS f k ||| (bif f k then Int64.ofNat kG1 <<< ((zn k).toInt64 &&& 63) else Int64.ofNat kG0)
def zT (f : Nat → Bool) : Nat → Int32
  | 0 => Int32.ofInt 0
  | k + 1 => zT f k ||| (bif f k then Int32.ofInt 1 <<< (zn k &&& 31) else Int32.ofInt 0)
noncomputable def zU (f : Nat → Int64) : Nat → Int64
  | 0 => Int64.ofNat kG0
  | k + 1 => zU f k ||| f k
theorem zS_b {f : Nat → Bool} {n : Nat} (hn : n ≤ 64) {k : Nat} (hk : k < 64) : zb (zS f n) k = (decide (k < n) && f k) := by
  induction n with
  | zero => show zb (Int64.ofNat kG0) k = _; rw [zL0]; simp [zb]
  | succ n ih =>
    show zb (zS f n ||| _) k = _
    rw [zb_or, ih (by omega)]
    cases hf : f n with
    | true =>
      rw [cond_true, zL1, zb_bit (by omega) hk]
      by_cases e : k = n
      · subst e; simp [hf]
      · have : (k < n + 1) ↔ (k < n) := by omega
        simp [e, this]
    | false =>
      rw [cond_false, zL0]
      by_cases e : k = n
      · subst e; simp [hf, zb]
      · have : (k < n + 1) ↔ (k < n) := by omega
        simp [this, zb]
theorem zT_b {f : Nat → Bool} {n : Nat} (hn : n ≤ 32) {k : Nat} (hk : k < 32) : zd (zT f n) k = (decide (k < n) && f k) := by
  induction n with
  | zero => show zd (Int32.ofInt 0) k = _; rw [show Int32.ofInt 0 = 0 by decide]; simp [zd]
  | succ n ih =>
    show zd (zT f n ||| _) k = _
    rw [zd_or, ih (by omega)]
    cases hf : f n with
    | true =>
      rw [cond_true, show Int32.ofInt 1 = 1 by decide, zd_bit (by omega) hk]
      by_cases e : k = n
      · subst e; simp [hf]
      · have : (k < n + 1) ↔ (k < n) := by omega
        simp [e, this]
    | false =>
      rw [cond_false, show Int32.ofInt 0 = 0 by decide]
      by_cases e : k = n
      · subst e; simp [hf, zd]
      · have : (k < n + 1) ↔ (k < n) := by omega
        simp [this, zd]
theorem zU_b {f : Nat → Int64} {n k : Nat} : zb (zU f n) k = true ↔ ∃ p, p < n ∧ zb (f p) k = true := by
  induction n with
  | zero =>
    show zb (Int64.ofNat kG0) k = true ↔ _
    rw [zL0]
    constructor
    · intro h; simp [zb] at h
    · rintro ⟨p, hp, -⟩; omega
  | succ n ih =>
    show zb (zU f n ||| f n) k = true ↔ _
    rw [zb_or, Bool.or_eq_true, ih]
    constructor
    · rintro (⟨p, hp, h⟩ | h)
      · exact ⟨p, by omega, h⟩
      · exact ⟨n, by omega, h⟩
    · rintro ⟨p, hp, h⟩
      by_cases e : p = n
      · subst e; exact Or.inr h
      · exact Or.inl ⟨p, by omega, h⟩
theorem zrcI {x : Int32} : ((zrc x : Nat) : Int) = max 0 (min 9 x.toInt) := by unfold zrc; omega
/-- one SEES what: a set -/
noncomputable def zVw (E : zEn) (P : Nat) (v : Nat → Nat) (p : Nat) : Int64 := zS (zSv E P v p) (E.1 * E.2.1)
noncomputable def zAll (E : zEn) (P : Nat) (v : Nat → Nat) : Int64 := zU (zVw E P v) P
def zTon (G : Nat) (v : Nat → Nat) (x : Int64) : Int32 := zT (fun t => zb x (v (32 + t))) G
def zPon (P : Nat) (v : Nat → Nat) (x : Int64) : Int32 := zT (fun p => zb x (v p)) P
def zWho (E : zEn) (P : Nat) (v : Nat → Nat) (g : Nat) : Int32 := zT (fun p => zSv E P v p g) P
def zMeet (E : zEn) (P : Nat) (v : Nat → Nat) (a b : Nat) : Bool := zSv E P v a (v b) && zSv E P v b (v a)
def zNear (C x y : Nat) : Bool := decide (((x / C : Nat) : Int) - (y / C : Nat) < 2 ∧ ((y / C : Nat) : Int) - (x / C : Nat) < 2 ∧ ((x % C : Nat) : Int) - (y % C : Nat) < 2 ∧ ((y % C : Nat) : Int) - (x % C : Nat) < 2)
def zTell (E : zEn) (P : Nat) (v : Nat → Nat) (a b : Nat) : Bool := zNear E.2.1 (v a) (v b) && zMeet E P v a b
noncomputable def zFree (rk : Nat → Bool) (n : Nat) : Int64 := zS (fun f => !rk f) n
/-- the reference's valley, light and rule -/
def zMe (ph : pm_H) (E : zEn) : Prop := zMl ph E.1 E.2.1 E.2.2.1 ∧ zMr ph E.2.2.2.1 E.2.2.2.2.1 E.2.2.2.2.2.1 E.2.2.2.2.2.2 ∧ zcg E.2.2.2.2.2.1 E.2.2.2.2.2.2
/-- what REACH leaves in passing: stack and asked -/
def zSc (p q : pm_H) : Prop := zFr [181, 182] [] p q
theorem zSc_e {p q : pm_H} {E : zEn} (f : zSc p q) (h : zMe p E) : zMe q E := ⟨zMl_F f (by simp) (by simp) (by simp) (by simp) h.1, zMr_F f (by simp) (by simp) (by simp) (by simp) h.2.1, h.2.2⟩
theorem zSc_p {p q : pm_H} {P G : Nat} (f : zSc p q) (h : zMp p P G) : zMp q P G := zMp_F f (by simp) (by simp) (by simp) h
theorem zSc_n {p q : pm_H} {A o : Nat} {v : Nat → Nat} (f : zSc p q) (hA : A = 174 ∨ A = 175 ∨ A = 183 ∨ A = 200) (h : zNr p A o v) : zNr q A o v := zNr_F f (by simp) (by simp <;> omega) h
theorem zSc_S {p q : pm_H} (f : zSc p q) (h : zSh p) : zSh q := zSh_F f (by decide +kernel) h
theorem zSc_l {p q : pm_H} {R C : Nat} {rk : Nat → Bool} (f : zSc p q) (h : zMl p R C rk) : zMl q R C rk := zMl_F f (by simp) (by simp) (by simp) (by simp) h
theorem zSc_r {p q : pm_H} {sn cn : Nat} {sk cd : Nat → Nat} (f : zSc p q) (h : zMr p sn sk cn cd) : zMr q sn sk cn cd := zMr_F f (by simp) (by simp) (by simp) (by simp) h
theorem zSc_a {p q : pm_H} {A o : Nat} {v : Nat → Nat} (f : zSc p q) (h : (A = 174 ∨ A = 175) ∧ zNr p A o v) : (A = 174 ∨ A = 175) ∧ zNr q A o v := ⟨h.1, zSc_n f (by omega) h.2⟩
theorem zm_work {c a b : Int32} {k : Nat} {ph : pm_H} (hc : c.toInt = (k : Int)) (hk : k ≤ 1000) : zM 218 [.int c, .int a, .int b] ph (fun v q => ph = q ∧ v = some (.int (zwk k a b))) := by
  obtain ⟨Q, hQ⟩ : ∃ Q : Option Value → pm_H → Prop, Q = (fun v q => ph = q ∧ v = some (.int (zwk k a b))) := ⟨_, rfl⟩
  rw [← hQ]
  refine zM_mk fun n D => ?_
  show zW n D 218 Q 0 [some (.int c), some (.int a), some (.int b)] [] ph
  have c_0 : (Int32.ofInt 0).toInt = 0 := by decide
  have c_1 : (Int32.ofInt 1).toInt = 1 := by decide
  refine w_load (pc' := 1) (v := .int c) (m := 1) (ykc_218 (e := (2, .iload_n kF0, 0)) rfl) rfl rfl ?_
  rcases (show k = 0 ∨ k = 1 ∨ k = 2 ∨ k = 3 ∨ k = 4 ∨ k = 5 ∨ 6 ≤ k by omega) with e | e | e | e | e | e | e
  · refine w_br (pc' := 40) (st' := []) (ykc_218 (e := (4, .tableswitch 93 0 5 #[39, 53, 67, 81, 85, 89], 39)) rfl) (zts_i (k := 0) (o := 39) (by omega) (by omega) rfl rfl) ?_
    refine w_load (pc' := 41) (v := .int a) (m := 1) (ykc_218 (e := (2, .iload_n kF1, 0)) rfl) rfl rfl ?_
    refine w_load (pc' := 42) (v := .int b) (m := 1) (ykc_218 (e := (2, .iload_n kF2, 0)) rfl) rfl rfl ?_
    refine w_ige (ykc_218 (e := (4, .if_icmp .ge 7, 49)) rfl) rfl (fun b96 => ?_) (fun b96 => ?_)
    · refine w_alu (pc' := 50) (st' := [.int (Int32.ofInt 0)]) (ykc_218 (e := (0, .iconst 0, 0)) rfl) rfl rfl ?_
      refine w_cs (as := [.int (Int32.ofInt 0)]) (r := []) (ykc_218 (e := (6, .invokestatic 154, 0)) rfl) rfl rfl rfl rfl (zm_flag0) (fun v97 ph98 hv => ?_)
      obtain ⟨rfl, rfl⟩ := hv
      have cI1 : (zI true).toInt = 1 := rfl
      have cI0 : (zI false).toInt = 0 := rfl
      show zW n D 218 Q 53 [some (.int c), some (.int a), some (.int b)] [.int (zI false)] ph
      refine w_ret (v := (some (.int (zI false)))) (ykc_218 (e := (7, .ireturn, 0)) rfl) (zr_v rfl) ?_
      subst e
      rw [hQ]
      exact ⟨rfl, zvB (by exact (decide_eq_false (by omega)).symm)⟩
    · refine w_alu (pc' := 46) (st' := [.int (Int32.ofInt 1)]) (ykc_218 (e := (0, .iconst 1, 0)) rfl) rfl rfl ?_
      refine w_br (pc' := 50) (st' := [.int (Int32.ofInt 1)]) (ykc_218 (e := (4, .goto 4, 50)) rfl) rfl ?_
      refine w_cs (as := [.int (Int32.ofInt 1)]) (r := []) (ykc_218 (e := (6, .invokestatic 154, 0)) rfl) rfl rfl rfl rfl (zm_flag1) (fun v99 ph100 hv => ?_)
      obtain ⟨rfl, rfl⟩ := hv
      have cI1 : (zI true).toInt = 1 := rfl
      have cI0 : (zI false).toInt = 0 := rfl
      show zW n D 218 Q 53 [some (.int c), some (.int a), some (.int b)] [.int (zI true)] ph
      refine w_ret (v := (some (.int (zI true)))) (ykc_218 (e := (7, .ireturn, 0)) rfl) (zr_v rfl) ?_
      subst e
      rw [hQ]
      exact ⟨rfl, zvB (by exact (decide_eq_true (by omega)).symm)⟩
  · refine w_br (pc' := 54) (st' := []) (ykc_218 (e := (4, .tableswitch 93 0 5 #[39, 53, 67, 81, 85, 89], 39)) rfl) (zts_i (k := 1) (o := 53) (by omega) (by omega) rfl rfl) ?_
    refine w_load (pc' := 55) (v := .int a) (m := 1) (ykc_218 (e := (2, .iload_n kF1, 0)) rfl) rfl rfl ?_
    refine w_load (pc' := 56) (v := .int b) (m := 1) (ykc_218 (e := (2, .iload_n kF2, 0)) rfl) rfl rfl ?_
    refine w_ile (ykc_218 (e := (4, .if_icmp .le 7, 63)) rfl) rfl (fun b101 => ?_) (fun b101 => ?_)
    · refine w_alu (pc' := 64) (st' := [.int (Int32.ofInt 0)]) (ykc_218 (e := (0, .iconst 0, 0)) rfl) rfl rfl ?_
      refine w_cs (as := [.int (Int32.ofInt 0)]) (r := []) (ykc_218 (e := (6, .invokestatic 154, 0)) rfl) rfl rfl rfl rfl (zm_flag0) (fun v102 ph103 hv => ?_)
      obtain ⟨rfl, rfl⟩ := hv
      have cI1 : (zI true).toInt = 1 := rfl
      have cI0 : (zI false).toInt = 0 := rfl
      show zW n D 218 Q 67 [some (.int c), some (.int a), some (.int b)] [.int (zI false)] ph
      refine w_ret (v := (some (.int (zI false)))) (ykc_218 (e := (7, .ireturn, 0)) rfl) (zr_v rfl) ?_
      subst e
      rw [hQ]
      exact ⟨rfl, zvB (by exact (decide_eq_false (by omega)).symm)⟩
    · refine w_alu (pc' := 60) (st' := [.int (Int32.ofInt 1)]) (ykc_218 (e := (0, .iconst 1, 0)) rfl) rfl rfl ?_
      refine w_br (pc' := 64) (st' := [.int (Int32.ofInt 1)]) (ykc_218 (e := (4, .goto 4, 64)) rfl) rfl ?_
      refine w_cs (as := [.int (Int32.ofInt 1)]) (r := []) (ykc_218 (e := (6, .invokestatic 154, 0)) rfl) rfl rfl rfl rfl (zm_flag1) (fun v104 ph105 hv => ?_)
      obtain ⟨rfl, rfl⟩ := hv
      have cI1 : (zI true).toInt = 1 := rfl
      have cI0 : (zI false).toInt = 0 := rfl
      show zW n D 218 Q 67 [some (.int c), some (.int a), some (.int b)] [.int (zI true)] ph
      refine w_ret (v := (some (.int (zI true)))) (ykc_218 (e := (7, .ireturn, 0)) rfl) (zr_v rfl) ?_
      subst e
      rw [hQ]
      exact ⟨rfl, zvB (by exact (decide_eq_true (by omega)).symm)⟩
  · refine w_br (pc' := 68) (st' := []) (ykc_218 (e := (4, .tableswitch 93 0 5 #[39, 53, 67, 81, 85, 89], 39)) rfl) (zts_i (k := 2) (o := 67) (by omega) (by omega) rfl rfl) ?_
    refine w_load (pc' := 69) (v := .int a) (m := 1) (ykc_218 (e := (2, .iload_n kF1, 0)) rfl) rfl rfl ?_
    refine w_load (pc' := 70) (v := .int b) (m := 1) (ykc_218 (e := (2, .iload_n kF2, 0)) rfl) rfl rfl ?_
    refine w_ine (ykc_218 (e := (4, .if_icmp .ne 7, 77)) rfl) rfl (fun b106 => ?_) (fun b106 => ?_)
    · refine w_alu (pc' := 78) (st' := [.int (Int32.ofInt 0)]) (ykc_218 (e := (0, .iconst 0, 0)) rfl) rfl rfl ?_
      refine w_cs (as := [.int (Int32.ofInt 0)]) (r := []) (ykc_218 (e := (6, .invokestatic 154, 0)) rfl) rfl rfl rfl rfl (zm_flag0) (fun v107 ph108 hv => ?_)
      obtain ⟨rfl, rfl⟩ := hv
      have cI1 : (zI true).toInt = 1 := rfl
      have cI0 : (zI false).toInt = 0 := rfl
      show zW n D 218 Q 81 [some (.int c), some (.int a), some (.int b)] [.int (zI false)] ph
      refine w_ret (v := (some (.int (zI false)))) (ykc_218 (e := (7, .ireturn, 0)) rfl) (zr_v rfl) ?_
      subst e
      rw [hQ]
      exact ⟨rfl, zvB (by exact (decide_eq_false (by omega)).symm)⟩
    · refine w_alu (pc' := 74) (st' := [.int (Int32.ofInt 1)]) (ykc_218 (e := (0, .iconst 1, 0)) rfl) rfl rfl ?_
      refine w_br (pc' := 78) (st' := [.int (Int32.ofInt 1)]) (ykc_218 (e := (4, .goto 4, 78)) rfl) rfl ?_
      refine w_cs (as := [.int (Int32.ofInt 1)]) (r := []) (ykc_218 (e := (6, .invokestatic 154, 0)) rfl) rfl rfl rfl rfl (zm_flag1) (fun v109 ph110 hv => ?_)
      obtain ⟨rfl, rfl⟩ := hv
      have cI1 : (zI true).toInt = 1 := rfl
      have cI0 : (zI false).toInt = 0 := rfl
      show zW n D 218 Q 81 [some (.int c), some (.int a), some (.int b)] [.int (zI true)] ph
      refine w_ret (v := (some (.int (zI true)))) (ykc_218 (e := (7, .ireturn, 0)) rfl) (zr_v rfl) ?_
      subst e
      rw [hQ]
      exact ⟨rfl, zvB (by exact (decide_eq_true (by omega)).symm)⟩
  · refine w_br (pc' := 82) (st' := []) (ykc_218 (e := (4, .tableswitch 93 0 5 #[39, 53, 67, 81, 85, 89], 39)) rfl) (zts_i (k := 3) (o := 81) (by omega) (by omega) rfl rfl) ?_
    refine w_load (pc' := 83) (v := .int a) (m := 1) (ykc_218 (e := (2, .iload_n kF1, 0)) rfl) rfl rfl ?_
    refine w_load (pc' := 84) (v := .int b) (m := 1) (ykc_218 (e := (2, .iload_n kF2, 0)) rfl) rfl rfl ?_
    refine w_alu (pc' := 85) (st' := [.int (a + b)]) (ykc_218 (e := (0, .iadd, 0)) rfl) rfl rfl ?_
    refine w_ret (v := (some (.int (a + b)))) (ykc_218 (e := (7, .ireturn, 0)) rfl) (zr_v rfl) ?_
    subst e
    rw [hQ]
    exact ⟨rfl, rfl⟩
  · refine w_br (pc' := 86) (st' := []) (ykc_218 (e := (4, .tableswitch 93 0 5 #[39, 53, 67, 81, 85, 89], 39)) rfl) (zts_i (k := 4) (o := 85) (by omega) (by omega) rfl rfl) ?_
    refine w_load (pc' := 87) (v := .int a) (m := 1) (ykc_218 (e := (2, .iload_n kF1, 0)) rfl) rfl rfl ?_
    refine w_load (pc' := 88) (v := .int b) (m := 1) (ykc_218 (e := (2, .iload_n kF2, 0)) rfl) rfl rfl ?_
    refine w_alu (pc' := 89) (st' := [.int (a - b)]) (ykc_218 (e := (0, .isub, 0)) rfl) rfl rfl ?_
    refine w_ret (v := (some (.int (a - b)))) (ykc_218 (e := (7, .ireturn, 0)) rfl) (zr_v rfl) ?_
    subst e
    rw [hQ]
    exact ⟨rfl, rfl⟩
  · refine w_br (pc' := 90) (st' := []) (ykc_218 (e := (4, .tableswitch 93 0 5 #[39, 53, 67, 81, 85, 89], 39)) rfl) (zts_i (k := 5) (o := 89) (by omega) (by omega) rfl rfl) ?_
    refine w_load (pc' := 91) (v := .int a) (m := 1) (ykc_218 (e := (2, .iload_n kF1, 0)) rfl) rfl rfl ?_
    refine w_load (pc' := 92) (v := .int b) (m := 1) (ykc_218 (e := (2, .iload_n kF2, 0)) rfl) rfl rfl ?_
    refine w_alu (pc' := 93) (st' := [.int (a * b)]) (ykc_218 (e := (0, .imul, 0)) rfl) rfl rfl ?_
    refine w_ret (v := (some (.int (a * b)))) (ykc_218 (e := (7, .ireturn, 0)) rfl) (zr_v rfl) ?_
    subst e
    rw [hQ]
    exact ⟨rfl, rfl⟩
  · refine w_br (pc' := 94) (st' := []) (ykc_218 (e := (4, .tableswitch 93 0 5 #[39, 53, 67, 81, 85, 89], 39)) rfl) (zts_d (Or.inr (by omega)) rfl) ?_
    refine w_load (pc' := 95) (v := .int b) (m := 1) (ykc_218 (e := (2, .iload_n kF2, 0)) rfl) rfl rfl ?_
    refine w_zne (ykc_218 (e := (4, .ifCond .ne 7, 102)) rfl) rfl (fun b111 => ?_) (fun b111 => ?_)
    · refine w_load (pc' := 103) (v := .int a) (m := 1) (ykc_218 (e := (2, .iload_n kF1, 0)) rfl) rfl rfl ?_
      refine w_load (pc' := 104) (v := .int b) (m := 1) (ykc_218 (e := (2, .iload_n kF2, 0)) rfl) rfl rfl ?_
      refine w_idiv (pc' := 105) (ykc_218 (e := (0, .idiv, 0)) rfl) rfl (fun d112 => ?_)
      show zW n D 218 Q 105 [some (.int c), some (.int a), some (.int b)] [.int (a / b)] ph
      refine w_ret (v := (some (.int (a / b)))) (ykc_218 (e := (7, .ireturn, 0)) rfl) (zr_v rfl) ?_
      rw [hQ]
      have n0 : ¬ k = 0 := by omega
      have n1 : ¬ k = 1 := by omega
      have n2 : ¬ k = 2 := by omega
      have n3 : ¬ k = 3 := by omega
      have n4 : ¬ k = 4 := by omega
      have n5 : ¬ k = 5 := by omega
      exact ⟨rfl, by unfold zwk; rw [if_neg n0, if_neg n1, if_neg n2, if_neg n3, if_neg n4, if_neg n5, if_neg b111]⟩
    · refine w_alu (pc' := 99) (st' := [.int (Int32.ofInt 0)]) (ykc_218 (e := (0, .iconst 0, 0)) rfl) rfl rfl ?_
      refine w_br (pc' := 105) (st' := [.int (Int32.ofInt 0)]) (ykc_218 (e := (4, .goto 6, 105)) rfl) rfl ?_
      refine w_ret (v := (some (.int (Int32.ofInt 0)))) (ykc_218 (e := (7, .ireturn, 0)) rfl) (zr_v rfl) ?_
      rw [hQ]
      have n0 : ¬ k = 0 := by omega
      have n1 : ¬ k = 1 := by omega
      have n2 : ¬ k = 2 := by omega
      have n3 : ¬ k = 3 := by omega
      have n4 : ¬ k = 4 := by omega
      have n5 : ¬ k = 5 := by omega
      exact ⟨rfl, by unfold zwk; rw [if_neg n0, if_neg n1, if_neg n2, if_neg n3, if_neg n4, if_neg n5, if_pos b111]⟩
theorem zm_ruled {ph : pm_H} (hS : zSh ph) {sn cn : Nat} {sk cd : Nat → Nat} (hR : zMr ph sn sk cn cd) (hcg : zcg cn cd) {as : Nat → Int32} (ha : ∀ i, i < 8 → zc ph 182 i = some (.int (as i))) : zM 219 [.ref 170] ph (fun v q => zFr [181] [] ph q ∧ v = some (.int (zval as cn cd))) := by
  obtain ⟨Q, hQ⟩ : ∃ Q : Option Value → pm_H → Prop, Q = (fun v q => zFr [181] [] ph q ∧ v = some (.int (zval as cn cd))) := ⟨_, rfl⟩
  rw [← hQ]
  refine zM_mk fun n D => ?_
  show zW n D 219 Q 0 [some (.ref 170), none, none, none] [] ph
  have c_0 : ((Int16.ofInt 1000).toInt32).toInt = 1000 := by decide
  have c_1 : ((Int16.ofInt 2000).toInt32).toInt = 2000 := by decide
  have c_2 : ((Int16.ofInt 3000).toInt32).toInt = 3000 := by decide
  have c_3 : (Int32.ofInt (-1)).toInt = -1 := by decide
  have c_4 : (Int32.ofInt 0).toInt = 0 := by decide
  have c_5 : (Int32.ofInt 1).toInt = 1 := by decide
  obtain ⟨gsn, hs1, hs20, gsk, gcn, hc40, gcd⟩ := hR
  have tsn := znt (k := sn) (by omega)
  have tcn := znt (k := cn) (by omega)
  refine w_alu (pc' := 1) (st' := [.int (Int32.ofInt 0)]) (ykc_219 (e := (0, .iconst 0, 0)) rfl) rfl rfl ?_
  refine w_store (pc' := 2) (L' := [some (.ref 170), some (.int (Int32.ofInt 0)), none, none]) (st' := []) (m := 1) (ykc_219 (e := (3, .istore_n kF1, 0)) rfl) rfl rfl ?_
  refine w_alu (pc' := 3) (st' := [.int (Int32.ofInt 0)]) (ykc_219 (e := (0, .iconst 0, 0)) rfl) rfl rfl ?_
  refine w_store (pc' := 4) (L' := [some (.ref 170), some (.int (Int32.ofInt 0)), some (.int (Int32.ofInt 0)), none]) (st' := []) (m := 1) (ykc_219 (e := (3, .istore_n kF2, 0)) rfl) rfl rfl ?_
  have hl : ∀ (n : Nat), ∀ (k : Nat) (x3 : Option Value) (ph1 : pm_H), (k ≤ cn) → (zFr [181] [] ph ph1) → (∀ i, i < ztp cd k → zc ph1 181 i = some (.int (zsk as cd k i))) → (ztp cd k ≤ 40 ∧ ztp cd k ≤ k) → zW n D 219 Q 4 [some (.ref 170), some (.int (zn (ztp cd k))), some (.int (zn k)), x3] [] ph1 := by
    intro n
    induction n using Nat.strongRecOn with
    | ind n ih =>
      intro k x3 ph1 hk hf hst htp
      have tk := znt (k := k) (by omega)
      have tt := znt (k := ztp cd k) (by omega)
      refine w_load (pc' := 5) (v := .int (zn k)) (m := 1) (ykc_219 (e := (2, .iload_n kF2, 0)) rfl) rfl rfl ?_
      refine w_load (pc' := 6) (v := .ref 170) (m := 1) (ykc_219 (e := (2, .aload_n kF0, 0)) rfl) rfl rfl ?_
      refine w_gf (pc' := 9) (v := .int (zn cn)) (ykc_219 (e := (5, .getfield 248, 0)) rfl) rfl ((hf.1 170 23 (by decide) (by decide)).trans gcn) rfl ?_
      refine w_ige (ykc_219 (e := (4, .if_icmp .ge 116, 125)) rfl) rfl (fun b113 => ?_) (fun b113 => ?_)
      · refine w_load (pc' := 126) (v := .ref 170) (m := 1) (ykc_219 (e := (2, .aload_n kF0, 0)) rfl) rfl rfl ?_
        refine w_gf (pc' := 129) (v := .int (zn cn)) (ykc_219 (e := (5, .getfield 248, 0)) rfl) rfl ((hf.1 170 23 (by decide) (by decide)).trans gcn) rfl ?_
        refine w_zne (ykc_219 (e := (4, .ifCond .ne 19, 148)) rfl) rfl (fun b114 => ?_) (fun b114 => ?_)
        · refine w_load (pc' := 149) (v := .ref 170) (m := 1) (ykc_219 (e := (2, .aload_n kF0, 0)) rfl) rfl rfl ?_
          refine w_gf (pc' := 152) (v := .ref 181) (ykc_219 (e := (5, .getfield 62, 0)) rfl) rfl ((hf.1 170 25 (by decide) (by decide)).trans (zsg hS zs_170_25)) rfl ?_
          refine w_alu (pc' := 153) (st' := [.int (Int32.ofInt 0), .ref 181]) (ykc_219 (e := (0, .iconst 0, 0)) rfl) rfl rfl ?_
          have hl1 := hcg.1 (by omega)
          have ek0 : ztp cd k = ztp cd cn := by rw [show k = cn by omega]
          refine w_ialk (pc' := 154) (k := 0) (ykc_219 (e := (5, .iaload, 0)) rfl) (hst 0 (by omega)) (by omega) rfl ?_
          refine w_ret (v := (some (.int (zsk as cd k 0)))) (ykc_219 (e := (7, .ireturn, 0)) rfl) (zr_v rfl) ?_
          have ek : k = cn := by omega
          subst ek
          rw [hQ]
          exact ⟨hf, by unfold zval; rw [if_neg (show ¬ k = 0 by omega)]⟩
        · refine w_load (pc' := 133) (v := .ref 170) (m := 1) (ykc_219 (e := (2, .aload_n kF0, 0)) rfl) rfl rfl ?_
          refine w_gf (pc' := 136) (v := .ref 182) (ykc_219 (e := (5, .getfield 65, 0)) rfl) rfl ((hf.1 170 26 (by decide) (by decide)).trans (zsg hS zs_170_26)) rfl ?_
          refine w_alu (pc' := 137) (st' := [.int (Int32.ofInt 1), .ref 182]) (ykc_219 (e := (0, .iconst 1, 0)) rfl) rfl rfl ?_
          refine w_ialk (pc' := 138) (k := 1) (ykc_219 (e := (5, .iaload, 0)) rfl) ((hf.1 182 1 (by decide) (by decide)).trans (ha 1 (by omega))) (by omega) rfl ?_
          refine w_load (pc' := 139) (v := .ref 170) (m := 1) (ykc_219 (e := (2, .aload_n kF0, 0)) rfl) rfl rfl ?_
          refine w_gf (pc' := 142) (v := .ref 182) (ykc_219 (e := (5, .getfield 65, 0)) rfl) rfl ((hf.1 170 26 (by decide) (by decide)).trans (zsg hS zs_170_26)) rfl ?_
          refine w_alu (pc' := 143) (st' := [.int (Int32.ofInt 0), .ref 182, .int (as 1)]) (ykc_219 (e := (0, .iconst 0, 0)) rfl) rfl rfl ?_
          refine w_ialk (pc' := 144) (k := 0) (ykc_219 (e := (5, .iaload, 0)) rfl) ((hf.1 182 0 (by decide) (by decide)).trans (ha 0 (by omega))) (by omega) rfl ?_
          refine w_alu (pc' := 145) (st' := [.int ((as 1) - (as 0))]) (ykc_219 (e := (0, .isub, 0)) rfl) rfl rfl ?_
          refine w_br (pc' := 154) (st' := [.int ((as 1) - (as 0))]) (ykc_219 (e := (4, .goto 9, 154)) rfl) rfl ?_
          refine w_ret (v := (some (.int ((as 1) - (as 0))))) (ykc_219 (e := (7, .ireturn, 0)) rfl) (zr_v rfl) ?_
          rw [hQ]
          exact ⟨hf, by unfold zval; rw [if_pos (show cn = 0 by omega)]⟩
      · refine w_load (pc' := 13) (v := .ref 170) (m := 1) (ykc_219 (e := (2, .aload_n kF0, 0)) rfl) rfl rfl ?_
        refine w_gf (pc' := 16) (v := .ref 179) (ykc_219 (e := (5, .getfield 56, 0)) rfl) rfl ((hf.1 170 21 (by decide) (by decide)).trans (zsg hS zs_170_21)) rfl ?_
        refine w_load (pc' := 17) (v := .int (zn k)) (m := 1) (ykc_219 (e := (2, .iload_n kF2, 0)) rfl) rfl rfl ?_
        have q115 := (gcd k (by omega)).2
        have tq115 := znt (k := cd k) (by omega)
        refine w_ialk (pc' := 18) (k := k) (ykc_219 (e := (5, .iaload, 0)) rfl) ((hf.1 179 k (by decide) (by simp)).trans (gcd k (by omega)).1) (by omega) rfl ?_
        refine w_store (pc' := 19) (L' := [some (.ref 170), some (.int (zn (ztp cd k))), some (.int (zn k)), some (.int (zn (cd k)))]) (st' := []) (m := 1) (ykc_219 (e := (3, .istore_n kF3, 0)) rfl) rfl rfl ?_
        refine w_load (pc' := 20) (v := .int (zn (cd k))) (m := 1) (ykc_219 (e := (2, .iload_n kF3, 0)) rfl) rfl rfl ?_
        refine w_push (pc' := 23) (v := .int ((Int16.ofInt 3000).toInt32)) (m := 3) (ykc_219 (e := (1, .sipush 3000, 0)) rfl) rfl rfl ?_
        refine w_ine (ykc_219 (e := (4, .if_icmp .ne 23, 46)) rfl) rfl (fun b116 => ?_) (fun b116 => ?_)
        · refine w_load (pc' := 47) (v := .int (zn (cd k))) (m := 1) (ykc_219 (e := (2, .iload_n kF3, 0)) rfl) rfl rfl ?_
          refine w_push (pc' := 50) (v := .int ((Int16.ofInt 2000).toInt32)) (m := 3) (ykc_219 (e := (1, .sipush 2000, 0)) rfl) rfl rfl ?_
          refine w_ilt (ykc_219 (e := (4, .if_icmp .lt 39, 89)) rfl) rfl (fun b117 => ?_) (fun b117 => ?_)
          · refine w_load (pc' := 90) (v := .ref 170) (m := 1) (ykc_219 (e := (2, .aload_n kF0, 0)) rfl) rfl rfl ?_
            refine w_gf (pc' := 93) (v := .ref 181) (ykc_219 (e := (5, .getfield 62, 0)) rfl) rfl ((hf.1 170 25 (by decide) (by decide)).trans (zsg hS zs_170_25)) rfl ?_
            refine w_load (pc' := 94) (v := .int (zn (ztp cd k))) (m := 1) (ykc_219 (e := (2, .iload_n kF1, 0)) rfl) rfl rfl ?_
            refine w_load (pc' := 95) (v := .int (zn (cd k))) (m := 1) (ykc_219 (e := (2, .iload_n kF3, 0)) rfl) rfl rfl ?_
            refine w_push (pc' := 98) (v := .int ((Int16.ofInt 1000).toInt32)) (m := 3) (ykc_219 (e := (1, .sipush 1000, 0)) rfl) rfl rfl ?_
            refine w_ilt (ykc_219 (e := (4, .if_icmp .lt 16, 114)) rfl) rfl (fun b118 => ?_) (fun b118 => ?_)
            · refine w_load (pc' := 115) (v := .int (zn (cd k))) (m := 1) (ykc_219 (e := (2, .iload_n kF3, 0)) rfl) rfl rfl ?_
              refine w_ias (pc' := 116) (k := ztp cd k) (ykc_219 (e := (5, .iastore, 0)) rfl) (by omega) rfl (fun ph120 u119 => ?_)
              have e121 : (zn (ztp cd k)) + Int32.ofInt 1 = zn (ztp cd k + 1) := (zaddN (a := ztp cd k) (b := 1) (znt (by omega)) c_5 (by omega))
              have te121 := znt (k := ztp cd k + 1) (by omega)
              refine w_store (pc' := 119) (L' := [some (.ref 170), some (.int (zn (ztp cd k + 1))), some (.int (zn k)), some (.int (zn (cd k)))]) (st' := []) (m := 3) (ykc_219 (e := (3, .iinc 1 1, 0)) rfl) (by rw [← e121]; rfl) rfl ?_
              have e122 : (zn k) + Int32.ofInt 1 = zn (k + 1) := (zaddN (a := k) (b := 1) (znt (by omega)) c_5 (by omega))
              have te122 := znt (k := k + 1) (by omega)
              refine w_store (pc' := 122) (L' := [some (.ref 170), some (.int (zn (ztp cd k + 1))), some (.int (zn (k + 1))), some (.int (zn (cd k)))]) (st' := []) (m := 3) (ykc_219 (e := (3, .iinc 2 1, 0)) rfl) (by rw [← e122]; rfl) rfl ?_
              refine w_gb (ykc_219 (e := (4, .goto (-118), 4)) rfl) (fun k123 hk123 => ?_)
              have et : ztp cd (k + 1) = ztp cd k + 1 := by
                show (if cd k = 3000 then _ else if 2000 ≤ cd k then _ else _) = _
                rw [if_neg (show ¬ cd k = 3000 by omega), if_neg (show ¬ 2000 ≤ cd k by omega)]
              have es : zsk as cd (k + 1) = zup (zsk as cd k) (ztp cd k) (zn (cd k)) := by
                show (if cd k = 3000 then _ else if 2000 ≤ cd k then _ else _) = _
                rw [if_neg (show ¬ cd k = 3000 by omega), if_neg (show ¬ 2000 ≤ cd k by omega), if_neg (show ¬ 1000 ≤ cd k by omega)]
              have h9 := ih k123 hk123 (k + 1) (some (.int (zn (cd k)))) ph120 (by omega) (zFr_add hf u119 (Or.inl (by decide))) (fun i hi => by
                rw [et] at hi
                rw [es]
                by_cases e9 : i = ztp cd k
                · rw [e9, zup_i]
                  exact u119.1
                · rw [zup_n e9]
                  exact (u119.2.1 181 i (fun q => e9 q.2)).trans (hst i (by omega))) (by rw [et]; omega)
              rw [et] at h9
              exact h9
            · have h3 := (hcg.2 k (by omega)).2.2
              refine w_load (pc' := 102) (v := .ref 170) (m := 1) (ykc_219 (e := (2, .aload_n kF0, 0)) rfl) rfl rfl ?_
              refine w_gf (pc' := 105) (v := .ref 182) (ykc_219 (e := (5, .getfield 65, 0)) rfl) rfl ((hf.1 170 26 (by decide) (by decide)).trans (zsg hS zs_170_26)) rfl ?_
              refine w_load (pc' := 106) (v := .int (zn (cd k))) (m := 1) (ykc_219 (e := (2, .iload_n kF3, 0)) rfl) rfl rfl ?_
              refine w_push (pc' := 109) (v := .int ((Int16.ofInt 1000).toInt32)) (m := 3) (ykc_219 (e := (1, .sipush 1000, 0)) rfl) rfl rfl ?_
              have e124 : (zn (cd k)) - ((Int16.ofInt 1000).toInt32) = zn (cd k - 1000) := zsubN (a := cd k) (b := 1000) (znt (by omega)) c_0 (by omega)
              have te124 := znt (k := cd k - 1000) (by omega)
              refine w_alu (pc' := 110) (st' := [.int (zn (cd k - 1000)), .ref 182, .int (zn (ztp cd k)), .ref 181]) (ykc_219 (e := (0, .isub, 0)) rfl) (by show some ([.int ((zn (cd k)) - ((Int16.ofInt 1000).toInt32)), .ref 182, .int (zn (ztp cd k)), .ref 181] : List Value) = _; rw [e124]) rfl ?_
              refine w_ialk (pc' := 111) (k := cd k - 1000) (ykc_219 (e := (5, .iaload, 0)) rfl) ((hf.1 182 (cd k - 1000) (by decide) (by simp)).trans (ha (cd k - 1000) (by omega))) (by omega) rfl ?_
              refine w_br (pc' := 115) (st' := [.int (as (cd k - 1000)), .int (zn (ztp cd k)), .ref 181]) (ykc_219 (e := (4, .goto 4, 115)) rfl) rfl ?_
              refine w_ias (pc' := 116) (k := ztp cd k) (ykc_219 (e := (5, .iastore, 0)) rfl) (by omega) rfl (fun ph126 u125 => ?_)
              have e127 : (zn (ztp cd k)) + Int32.ofInt 1 = zn (ztp cd k + 1) := (zaddN (a := ztp cd k) (b := 1) (znt (by omega)) c_5 (by omega))
              have te127 := znt (k := ztp cd k + 1) (by omega)
              refine w_store (pc' := 119) (L' := [some (.ref 170), some (.int (zn (ztp cd k + 1))), some (.int (zn k)), some (.int (zn (cd k)))]) (st' := []) (m := 3) (ykc_219 (e := (3, .iinc 1 1, 0)) rfl) (by rw [← e127]; rfl) rfl ?_
              have e128 : (zn k) + Int32.ofInt 1 = zn (k + 1) := (zaddN (a := k) (b := 1) (znt (by omega)) c_5 (by omega))
              have te128 := znt (k := k + 1) (by omega)
              refine w_store (pc' := 122) (L' := [some (.ref 170), some (.int (zn (ztp cd k + 1))), some (.int (zn (k + 1))), some (.int (zn (cd k)))]) (st' := []) (m := 3) (ykc_219 (e := (3, .iinc 2 1, 0)) rfl) (by rw [← e128]; rfl) rfl ?_
              refine w_gb (ykc_219 (e := (4, .goto (-118), 4)) rfl) (fun k129 hk129 => ?_)
              have et : ztp cd (k + 1) = ztp cd k + 1 := by
                show (if cd k = 3000 then _ else if 2000 ≤ cd k then _ else _) = _
                rw [if_neg (show ¬ cd k = 3000 by omega), if_neg (show ¬ 2000 ≤ cd k by omega)]
              have es : zsk as cd (k + 1) = zup (zsk as cd k) (ztp cd k) (as (cd k - 1000)) := by
                show (if cd k = 3000 then _ else if 2000 ≤ cd k then _ else _) = _
                rw [if_neg (show ¬ cd k = 3000 by omega), if_neg (show ¬ 2000 ≤ cd k by omega), if_pos (show 1000 ≤ cd k by omega)]
              have h9 := ih k129 hk129 (k + 1) (some (.int (zn (cd k)))) ph126 (by omega) (zFr_add hf u125 (Or.inl (by decide))) (fun i hi => by
                rw [et] at hi
                rw [es]
                by_cases e9 : i = ztp cd k
                · rw [e9, zup_i]
                  exact u125.1
                · rw [zup_n e9]
                  exact (u125.2.1 181 i (fun q => e9 q.2)).trans (hst i (by omega))) (by rw [et]; omega)
              rw [et] at h9
              exact h9
          · have h2 : 2 ≤ ztp cd k := (hcg.2 k (by omega)).2.1 (by omega) (by omega)
            have e130 : (zn (ztp cd k)) + Int32.ofInt (-1) = zn (ztp cd k - 1) := (zdecN (a := ztp cd k) (znt (by omega)) (by omega))
            have te130 := znt (k := ztp cd k - 1) (by omega)
            refine w_store (pc' := 56) (L' := [some (.ref 170), some (.int (zn (ztp cd k - 1))), some (.int (zn k)), some (.int (zn (cd k)))]) (st' := []) (m := 3) (ykc_219 (e := (3, .iinc 1 (-1), 0)) rfl) (by rw [← e130]; rfl) rfl ?_
            refine w_load (pc' := 57) (v := .ref 170) (m := 1) (ykc_219 (e := (2, .aload_n kF0, 0)) rfl) rfl rfl ?_
            refine w_gf (pc' := 60) (v := .ref 181) (ykc_219 (e := (5, .getfield 62, 0)) rfl) rfl ((hf.1 170 25 (by decide) (by decide)).trans (zsg hS zs_170_25)) rfl ?_
            refine w_load (pc' := 61) (v := .int (zn (ztp cd k - 1))) (m := 1) (ykc_219 (e := (2, .iload_n kF1, 0)) rfl) rfl rfl ?_
            refine w_alu (pc' := 62) (st' := [.int (Int32.ofInt 1), .int (zn (ztp cd k - 1)), .ref 181]) (ykc_219 (e := (0, .iconst 1, 0)) rfl) rfl rfl ?_
            have e131 : (zn (ztp cd k - 1)) - (Int32.ofInt 1) = zn (ztp cd k - 2) := zsubN (a := ztp cd k - 1) (b := 1) (znt (by omega)) c_5 (by omega)
            have te131 := znt (k := ztp cd k - 2) (by omega)
            refine w_alu (pc' := 63) (st' := [.int (zn (ztp cd k - 2)), .ref 181]) (ykc_219 (e := (0, .isub, 0)) rfl) (by show some ([.int ((zn (ztp cd k - 1)) - (Int32.ofInt 1)), .ref 181] : List Value) = _; rw [e131]) rfl ?_
            refine w_load (pc' := 64) (v := .int (zn (cd k))) (m := 1) (ykc_219 (e := (2, .iload_n kF3, 0)) rfl) rfl rfl ?_
            refine w_push (pc' := 67) (v := .int ((Int16.ofInt 2000).toInt32)) (m := 3) (ykc_219 (e := (1, .sipush 2000, 0)) rfl) rfl rfl ?_
            have e132 : (zn (cd k)) - ((Int16.ofInt 2000).toInt32) = zn (cd k - 2000) := zsubN (a := cd k) (b := 2000) (znt (by omega)) c_1 (by omega)
            have te132 := znt (k := cd k - 2000) (by omega)
            refine w_alu (pc' := 68) (st' := [.int (zn (cd k - 2000)), .int (zn (ztp cd k - 2)), .ref 181]) (ykc_219 (e := (0, .isub, 0)) rfl) (by show some ([.int ((zn (cd k)) - ((Int16.ofInt 2000).toInt32)), .int (zn (ztp cd k - 2)), .ref 181] : List Value) = _; rw [e132]) rfl ?_
            refine w_load (pc' := 69) (v := .ref 170) (m := 1) (ykc_219 (e := (2, .aload_n kF0, 0)) rfl) rfl rfl ?_
            refine w_gf (pc' := 72) (v := .ref 181) (ykc_219 (e := (5, .getfield 62, 0)) rfl) rfl ((hf.1 170 25 (by decide) (by decide)).trans (zsg hS zs_170_25)) rfl ?_
            refine w_load (pc' := 73) (v := .int (zn (ztp cd k - 1))) (m := 1) (ykc_219 (e := (2, .iload_n kF1, 0)) rfl) rfl rfl ?_
            refine w_alu (pc' := 74) (st' := [.int (Int32.ofInt 1), .int (zn (ztp cd k - 1)), .ref 181, .int (zn (cd k - 2000)), .int (zn (ztp cd k - 2)), .ref 181]) (ykc_219 (e := (0, .iconst 1, 0)) rfl) rfl rfl ?_
            have e133 : (zn (ztp cd k - 1)) - (Int32.ofInt 1) = zn (ztp cd k - 2) := zsubN (a := ztp cd k - 1) (b := 1) (znt (by omega)) c_5 (by omega)
            have te133 := znt (k := ztp cd k - 2) (by omega)
            refine w_alu (pc' := 75) (st' := [.int (zn (ztp cd k - 2)), .ref 181, .int (zn (cd k - 2000)), .int (zn (ztp cd k - 2)), .ref 181]) (ykc_219 (e := (0, .isub, 0)) rfl) (by show some ([.int ((zn (ztp cd k - 1)) - (Int32.ofInt 1)), .ref 181, .int (zn (cd k - 2000)), .int (zn (ztp cd k - 2)), .ref 181] : List Value) = _; rw [e133]) rfl ?_
            refine w_ialk (pc' := 76) (k := ztp cd k - 2) (ykc_219 (e := (5, .iaload, 0)) rfl) (hst (ztp cd k - 2) (by omega)) (by omega) rfl ?_
            refine w_load (pc' := 77) (v := .ref 170) (m := 1) (ykc_219 (e := (2, .aload_n kF0, 0)) rfl) rfl rfl ?_
            refine w_gf (pc' := 80) (v := .ref 181) (ykc_219 (e := (5, .getfield 62, 0)) rfl) rfl ((hf.1 170 25 (by decide) (by decide)).trans (zsg hS zs_170_25)) rfl ?_
            refine w_load (pc' := 81) (v := .int (zn (ztp cd k - 1))) (m := 1) (ykc_219 (e := (2, .iload_n kF1, 0)) rfl) rfl rfl ?_
            refine w_ialk (pc' := 82) (k := ztp cd k - 1) (ykc_219 (e := (5, .iaload, 0)) rfl) (hst (ztp cd k - 1) (by omega)) (by omega) rfl ?_
            refine w_cs (as := [.int (zn (cd k - 2000)), .int (zsk as cd k (ztp cd k - 2)), .int (zsk as cd k (ztp cd k - 1))]) (r := [.int (zn (ztp cd k - 2)), .ref 181]) (ykc_219 (e := (6, .invokestatic 258, 0)) rfl) rfl rfl rfl rfl (zm_work (k := cd k - 2000) (by omega) (by omega)) (fun v134 ph135 hv => ?_)
            obtain ⟨rfl, rfl⟩ := hv
            show zW n D 219 Q 85 [some (.ref 170), some (.int (zn (ztp cd k - 1))), some (.int (zn k)), some (.int (zn (cd k)))] [.int (zwk (cd k - 2000) (zsk as cd k (ztp cd k - 2)) (zsk as cd k (ztp cd k - 1))), .int (zn (ztp cd k - 2)), .ref 181] ph1
            refine w_ias (pc' := 86) (k := ztp cd k - 2) (ykc_219 (e := (5, .iastore, 0)) rfl) (by omega) rfl (fun ph137 u136 => ?_)
            refine w_br (pc' := 119) (st' := []) (ykc_219 (e := (4, .goto 33, 119)) rfl) rfl ?_
            have e138 : (zn k) + Int32.ofInt 1 = zn (k + 1) := (zaddN (a := k) (b := 1) (znt (by omega)) c_5 (by omega))
            have te138 := znt (k := k + 1) (by omega)
            refine w_store (pc' := 122) (L' := [some (.ref 170), some (.int (zn (ztp cd k - 1))), some (.int (zn (k + 1))), some (.int (zn (cd k)))]) (st' := []) (m := 3) (ykc_219 (e := (3, .iinc 2 1, 0)) rfl) (by rw [← e138]; rfl) rfl ?_
            refine w_gb (ykc_219 (e := (4, .goto (-118), 4)) rfl) (fun k139 hk139 => ?_)
            have et : ztp cd (k + 1) = ztp cd k - 1 := by
              show (if cd k = 3000 then _ else if 2000 ≤ cd k then _ else _) = _
              rw [if_neg (show ¬ cd k = 3000 by omega), if_pos (show 2000 ≤ cd k by omega)]
            have es : zsk as cd (k + 1) = zup (zsk as cd k) (ztp cd k - 2) (zwk (cd k - 2000) (zsk as cd k (ztp cd k - 2)) (zsk as cd k (ztp cd k - 1))) := by
              show (if cd k = 3000 then _ else if 2000 ≤ cd k then _ else _) = _
              rw [if_neg (show ¬ cd k = 3000 by omega), if_pos (show 2000 ≤ cd k by omega)]
            have h9 := ih k139 hk139 (k + 1) (some (.int (zn (cd k)))) ph137 (by omega) (zFr_add hf u136 (Or.inl (by decide))) (fun i hi => by
              rw [et] at hi
              rw [es]
              by_cases e9 : i = ztp cd k - 2
              · rw [e9, zup_i]
                exact u136.1
              · rw [zup_n e9]
                exact (u136.2.1 181 i (fun q => e9 q.2)).trans (hst i (by omega))) (by rw [et]; omega)
            rw [et] at h9
            exact h9
        · have h1 : 1 ≤ ztp cd k := (hcg.2 k (by omega)).1 (by omega)
          refine w_load (pc' := 27) (v := .ref 170) (m := 1) (ykc_219 (e := (2, .aload_n kF0, 0)) rfl) rfl rfl ?_
          refine w_gf (pc' := 30) (v := .ref 181) (ykc_219 (e := (5, .getfield 62, 0)) rfl) rfl ((hf.1 170 25 (by decide) (by decide)).trans (zsg hS zs_170_25)) rfl ?_
          refine w_load (pc' := 31) (v := .int (zn (ztp cd k))) (m := 1) (ykc_219 (e := (2, .iload_n kF1, 0)) rfl) rfl rfl ?_
          refine w_alu (pc' := 32) (st' := [.int (Int32.ofInt 1), .int (zn (ztp cd k)), .ref 181]) (ykc_219 (e := (0, .iconst 1, 0)) rfl) rfl rfl ?_
          have e140 : (zn (ztp cd k)) - (Int32.ofInt 1) = zn (ztp cd k - 1) := zsubN (a := ztp cd k) (b := 1) (znt (by omega)) c_5 (by omega)
          have te140 := znt (k := ztp cd k - 1) (by omega)
          refine w_alu (pc' := 33) (st' := [.int (zn (ztp cd k - 1)), .ref 181]) (ykc_219 (e := (0, .isub, 0)) rfl) (by show some ([.int ((zn (ztp cd k)) - (Int32.ofInt 1)), .ref 181] : List Value) = _; rw [e140]) rfl ?_
          refine w_load (pc' := 34) (v := .ref 170) (m := 1) (ykc_219 (e := (2, .aload_n kF0, 0)) rfl) rfl rfl ?_
          refine w_gf (pc' := 37) (v := .ref 181) (ykc_219 (e := (5, .getfield 62, 0)) rfl) rfl ((hf.1 170 25 (by decide) (by decide)).trans (zsg hS zs_170_25)) rfl ?_
          refine w_load (pc' := 38) (v := .int (zn (ztp cd k))) (m := 1) (ykc_219 (e := (2, .iload_n kF1, 0)) rfl) rfl rfl ?_
          refine w_alu (pc' := 39) (st' := [.int (Int32.ofInt 1), .int (zn (ztp cd k)), .ref 181, .int (zn (ztp cd k - 1)), .ref 181]) (ykc_219 (e := (0, .iconst 1, 0)) rfl) rfl rfl ?_
          have e141 : (zn (ztp cd k)) - (Int32.ofInt 1) = zn (ztp cd k - 1) := zsubN (a := ztp cd k) (b := 1) (znt (by omega)) c_5 (by omega)
          have te141 := znt (k := ztp cd k - 1) (by omega)
          refine w_alu (pc' := 40) (st' := [.int (zn (ztp cd k - 1)), .ref 181, .int (zn (ztp cd k - 1)), .ref 181]) (ykc_219 (e := (0, .isub, 0)) rfl) (by show some ([.int ((zn (ztp cd k)) - (Int32.ofInt 1)), .ref 181, .int (zn (ztp cd k - 1)), .ref 181] : List Value) = _; rw [e141]) rfl ?_
          refine w_ialk (pc' := 41) (k := ztp cd k - 1) (ykc_219 (e := (5, .iaload, 0)) rfl) (hst (ztp cd k - 1) (by omega)) (by omega) rfl ?_
          refine w_alu (pc' := 42) (st' := [.int (-(zsk as cd k (ztp cd k - 1))), .int (zn (ztp cd k - 1)), .ref 181]) (ykc_219 (e := (0, .ineg, 0)) rfl) rfl rfl ?_
          refine w_ias (pc' := 43) (k := ztp cd k - 1) (ykc_219 (e := (5, .iastore, 0)) rfl) (by omega) rfl (fun ph143 u142 => ?_)
          refine w_br (pc' := 119) (st' := []) (ykc_219 (e := (4, .goto 76, 119)) rfl) rfl ?_
          have e144 : (zn k) + Int32.ofInt 1 = zn (k + 1) := (zaddN (a := k) (b := 1) (znt (by omega)) c_5 (by omega))
          have te144 := znt (k := k + 1) (by omega)
          refine w_store (pc' := 122) (L' := [some (.ref 170), some (.int (zn (ztp cd k))), some (.int (zn (k + 1))), some (.int (zn (cd k)))]) (st' := []) (m := 3) (ykc_219 (e := (3, .iinc 2 1, 0)) rfl) (by rw [← e144]; rfl) rfl ?_
          refine w_gb (ykc_219 (e := (4, .goto (-118), 4)) rfl) (fun k145 hk145 => ?_)
          have et : ztp cd (k + 1) = ztp cd k := by
            show (if cd k = 3000 then _ else if 2000 ≤ cd k then _ else _) = _
            rw [if_pos (show cd k = 3000 by omega)]
          have es : zsk as cd (k + 1) = zup (zsk as cd k) (ztp cd k - 1) (-(zsk as cd k (ztp cd k - 1))) := by
            show (if cd k = 3000 then _ else if 2000 ≤ cd k then _ else _) = _
            rw [if_pos (show cd k = 3000 by omega)]
          have h9 := ih k145 hk145 (k + 1) (some (.int (zn (cd k)))) ph143 (by omega) (zFr_add hf u142 (Or.inl (by decide))) (fun i hi => by
            rw [et] at hi
            rw [es]
            by_cases e9 : i = ztp cd k - 1
            · rw [e9, zup_i]
              exact u142.1
            · rw [zup_n e9]
              exact (u142.2.1 181 i (fun q => e9 q.2)).trans (hst i (by omega))) (by rw [et]; omega)
          rw [et] at h9
          exact h9
  exact hl n 0 none ph (by omega) zFr_refl (fun i hi => absurd hi (Nat.not_lt_zero i)) ⟨Nat.zero_le _, Nat.le_refl _⟩
end
section
/-! the reference: REACH, views and sets, by W; printed by wip/z/z_e_seem2.py -/
theorem zNr0 {ph : pm_H} {A i : Nat} {v : Nat → Nat} (h : zNr ph A 0 v) (hi : i < 41) : zc ph A i = some (.int (zn (v i))) := by
  have h2 := h i hi
  rwa [Nat.zero_add] at h2
theorem zm_light {ph : pm_H} (hS : zSh ph) {sn cn h : Nat} {sk cd : Nat → Nat} (hR : zMr ph sn sk cn cd) (hh : h < 2147483648) : zM 211 [.ref 170, .int (zn h)] ph (fun v q => ph = q ∧ v = some (.int (zn (sk (h % sn))))) := by
  obtain ⟨Q, hQ⟩ : ∃ Q : Option Value → pm_H → Prop, Q = (fun v q => ph = q ∧ v = some (.int (zn (sk (h % sn))))) := ⟨_, rfl⟩
  rw [← hQ]
  refine zM_mk fun n D => ?_
  show zW n D 211 Q 0 [some (.ref 170), some (.int (zn h))] [] ph
  obtain ⟨gsn, hs1, hs20, gsk, gcn, hc40, gcd⟩ := hR
  have tsn := znt (k := sn) (by omega)
  have tcn := znt (k := cn) (by omega)
  have th := znt hh
  have hm := Nat.mod_lt h (show 0 < sn by omega)
  refine w_load (pc' := 1) (v := .ref 170) (m := 1) (ykc_211 (e := (2, .aload_n kF0, 0)) rfl) rfl rfl ?_
  refine w_gf (pc' := 4) (v := .ref 173) (ykc_211 (e := (5, .getfield 37, 0)) rfl) rfl (zsg hS zs_170_10) rfl ?_
  refine w_load (pc' := 5) (v := .int (zn h)) (m := 1) (ykc_211 (e := (2, .iload_n kF1, 0)) rfl) rfl rfl ?_
  refine w_load (pc' := 6) (v := .ref 170) (m := 1) (ykc_211 (e := (2, .aload_n kF0, 0)) rfl) rfl rfl ?_
  refine w_gf (pc' := 9) (v := .int (zn sn)) (ykc_211 (e := (5, .getfield 30, 0)) rfl) rfl gsn rfl ?_
  refine w_irem (pc' := 10) (ykc_211 (e := (0, .irem, 0)) rfl) rfl (fun d146 => ?_)
  have e147 : (zn h) - (zn h) / (zn sn) * (zn sn) = zn (h % sn) := zn_of (zremN (by omega) (by omega) (by omega))
  have te147 := znt (k := h % sn) (by omega)
  rw [e147]
  show zW n D 211 Q 10 [some (.ref 170), some (.int (zn h))] [.int (zn (h % sn)), .ref 173] ph
  have q148 := (gsk (h % sn) (by omega)).2
  have tq148 := znt (k := sk (h % sn)) (by omega)
  refine w_ialk (pc' := 11) (k := h % sn) (ykc_211 (e := (5, .iaload, 0)) rfl) (gsk (h % sn) (by omega)).1 (by omega) rfl ?_
  refine w_ret (v := (some (.int (zn (sk (h % sn)))))) (ykc_211 (e := (7, .ireturn, 0)) rfl) (zr_v rfl) ?_
  rw [hQ]
  exact ⟨rfl, rfl⟩
theorem zm_reach {ph : pm_H} {E : zEn} {P G A : Nat} {v : Nat → Nat} (hS : zSh ph) (hE : zMe ph E) (hN : zMp ph P G) (hA : A = 174 ∨ A = 175) (hv : zNr ph A 0 v) (hO : zOk E.1 E.2.1 P G v) {p br : Nat} (hp : p < P) (hb : br ≤ 4) : zM 220 [.ref 170, .ref A, .int (zn p), .int (zn br)] ph (fun v0 q => zSc ph q ∧ v0 = some (.int (zn (zRe E P v p br)))) := by
  obtain ⟨Q, hQ⟩ : ∃ Q : Option Value → pm_H → Prop, Q = (fun v0 q => zSc ph q ∧ v0 = some (.int (zn (zRe E P v p br)))) := ⟨_, rfl⟩
  rw [← hQ]
  refine zM_mk fun n D => ?_
  show zW n D 220 Q 0 [some (.ref 170), some (.ref A), some (.int (zn p)), some (.int (zn br)), none, none] [] ph
  have c_0 : ((Int8.ofInt 24).toInt32).toInt = 24 := by decide
  have c_1 : ((Int8.ofInt 40).toInt32).toInt = 40 := by decide
  have c_2 : ((Int8.ofInt 6).toInt32).toInt = 6 := by decide
  have c_3 : ((Int8.ofInt 7).toInt32).toInt = 7 := by decide
  have c_4 : ((Int8.ofInt 8).toInt32).toInt = 8 := by decide
  have c_5 : ((Int8.ofInt 9).toInt32).toInt = 9 := by decide
  have c_6 : (Int32.ofInt 0).toInt = 0 := by decide
  have c_7 : (Int32.ofInt 1).toInt = 1 := by decide
  have c_8 : (Int32.ofInt 2).toInt = 2 := by decide
  have c_9 : (Int32.ofInt 3).toInt = 3 := by decide
  have c_10 : (Int32.ofInt 4).toInt = 4 := by decide
  have c_11 : (Int32.ofInt 5).toInt = 5 := by decide
  obtain ⟨R, C, rk, sn, sk, cn, cd⟩ := E
  have hL0 : zMl ph R C rk := hE.1
  have hR0 : zMr ph sn sk cn cd := hE.2.1
  have hcg : zcg cn cd := hE.2.2
  have hE0 : zMe ph (R, C, rk, sn, sk, cn, cd) := hE
  have hO0 : zOk R C P G v := hO
  have hN0 := hN
  have hL := hL0
  have hR := hR0
  obtain ⟨gR, gC, gK, hR3, hR7, hC3, hC7⟩ := hL
  have hRC := zRC49 hR7 hC7
  have tR := znt (k := R) (by omega)
  have tC := znt (k := C) (by omega)
  obtain ⟨gP, hP8, gG, hG8⟩ := hN
  have tP := znt (k := P) (by omega)
  have tG := znt (k := G) (by omega)
  obtain ⟨gsn, hs1, hs20, gsk, gcn, hc40, gcd⟩ := hR
  have tsn := znt (k := sn) (by omega)
  have tcn := znt (k := cn) (by omega)
  have tp := znt (k := p) (by omega)
  have tb := znt (k := br) (by omega)
  refine w_alu (pc' := 1) (st' := [.int (Int32.ofInt 0)]) (ykc_220 (e := (0, .iconst 0, 0)) rfl) rfl rfl ?_
  refine w_store (pc' := 3) (L' := [some (.ref 170), some (.ref A), some (.int (zn p)), some (.int (zn br)), some (.int (Int32.ofInt 0)), none]) (st' := []) (m := 2) (ykc_220 (e := (3, .istore 4, 0)) rfl) rfl rfl ?_
  refine w_alu (pc' := 4) (st' := [.int (Int32.ofInt 0)]) (ykc_220 (e := (0, .iconst 0, 0)) rfl) rfl rfl ?_
  refine w_store (pc' := 6) (L' := [some (.ref 170), some (.ref A), some (.int (zn p)), some (.int (zn br)), some (.int (Int32.ofInt 0)), some (.int (Int32.ofInt 0))]) (st' := []) (m := 2) (ykc_220 (e := (3, .istore 5, 0)) rfl) rfl rfl ?_
  have hl : ∀ (n : Nat), ∀ (k : Nat), (k ≤ P) → zW n D 220 Q 6 [some (.ref 170), some (.ref A), some (.int (zn p)), some (.int (zn br)), some (.int (zn (zct v (v p) k))), some (.int (zn k))] [] ph := by
    intro n
    induction n using Nat.strongRecOn with
    | ind n ih =>
      intro k hk
      have tk := znt (k := k) (by omega)
      have hc0 := @zct_le v (v p) k
      have tc := znt (k := zct v (v p) k) (by omega)
      refine w_load (pc' := 8) (v := .int (zn k)) (m := 2) (ykc_220 (e := (2, .iload 5, 0)) rfl) rfl rfl ?_
      refine w_load (pc' := 9) (v := .ref 170) (m := 1) (ykc_220 (e := (2, .aload_n kF0, 0)) rfl) rfl rfl ?_
      refine w_gf (pc' := 12) (v := .int (zn P)) (ykc_220 (e := (5, .getfield 130, 0)) rfl) rfl gP rfl ?_
      refine w_ige (ykc_220 (e := (4, .if_icmp .ge 32, 44)) rfl) rfl (fun b149 => ?_) (fun b149 => ?_)
      · refine w_load (pc' := 45) (v := .ref 170) (m := 1) (ykc_220 (e := (2, .aload_n kF0, 0)) rfl) rfl rfl ?_
        refine w_gf (pc' := 48) (v := .ref 182) (ykc_220 (e := (5, .getfield 65, 0)) rfl) rfl (zsg hS zs_170_26) rfl ?_
        refine w_alu (pc' := 49) (st' := [.int (Int32.ofInt 0), .ref 182]) (ykc_220 (e := (0, .iconst 0, 0)) rfl) rfl rfl ?_
        refine w_load (pc' := 50) (v := .int (zn br)) (m := 1) (ykc_220 (e := (2, .iload_n kF3, 0)) rfl) rfl rfl ?_
        refine w_ias (pc' := 51) (k := 0) (ykc_220 (e := (5, .iastore, 0)) rfl) (by omega) rfl (fun ph151 u150 => ?_)
        refine w_load (pc' := 52) (v := .ref 170) (m := 1) (ykc_220 (e := (2, .aload_n kF0, 0)) rfl) rfl rfl ?_
        refine w_gf (pc' := 55) (v := .ref 182) (ykc_220 (e := (5, .getfield 65, 0)) rfl) rfl ((u150.2.1 170 26 (fun q => absurd q.1 (by decide))).trans (zsg hS zs_170_26)) rfl ?_
        refine w_alu (pc' := 56) (st' := [.int (Int32.ofInt 1), .ref 182]) (ykc_220 (e := (0, .iconst 1, 0)) rfl) rfl rfl ?_
        refine w_load (pc' := 57) (v := .ref 170) (m := 1) (ykc_220 (e := (2, .aload_n kF0, 0)) rfl) rfl rfl ?_
        refine w_load (pc' := 58) (v := .ref A) (m := 1) (ykc_220 (e := (2, .aload_n kF1, 0)) rfl) rfl rfl ?_
        refine w_push (pc' := 60) (v := .int ((Int8.ofInt 40).toInt32)) (m := 2) (ykc_220 (e := (1, .bipush 40, 0)) rfl) rfl rfl ?_
        have q152 := hO0.2.2
        have tq152 := znt (k := v 40) (by omega)
        refine w_ialk (pc' := 61) (k := 40) (ykc_220 (e := (5, .iaload, 0)) rfl) ((u150.2.1 A 40 (fun q => by have q2 := q.1; omega)).trans (zNr0 hv (i := 40) (by omega))) (by omega) rfl ?_
        refine w_cv (as := [.ref 170, .int (zn (v 40))]) (r := [.int (Int32.ofInt 1), .ref 182]) (ykc_220 (e := (6, .invokevirtual 262, 0)) rfl) rfl rfl rfl rfl (zm_light (zSc_S (zFr_st u150 (Or.inl (by simp))) hS) (zSc_r (zFr_st u150 (Or.inl (by simp))) hR0) (h := v 40) (by omega)) (fun v153 ph154 hv => ?_)
        obtain ⟨rfl, rfl⟩ := hv
        have hm := Nat.mod_lt (v 40) (show 0 < sn by omega)
        have tl := znt (k := sk ((v 40) % sn)) (by have := (gsk ((v 40) % sn) hm).2; omega)
        show zW n D 220 Q 64 [some (.ref 170), some (.ref A), some (.int (zn p)), some (.int (zn br)), some (.int (zn (zct v (v p) k))), some (.int (zn k))] [.int (zn (sk ((v 40) % sn))), .int (Int32.ofInt 1), .ref 182] ph151
        refine w_ias (pc' := 65) (k := 1) (ykc_220 (e := (5, .iastore, 0)) rfl) (by omega) rfl (fun ph156 u155 => ?_)
        refine w_load (pc' := 66) (v := .ref 170) (m := 1) (ykc_220 (e := (2, .aload_n kF0, 0)) rfl) rfl rfl ?_
        refine w_gf (pc' := 69) (v := .ref 182) (ykc_220 (e := (5, .getfield 65, 0)) rfl) rfl ((u155.2.1 170 26 (fun q => absurd q.1 (by decide))).trans ((u150.2.1 170 26 (fun q => absurd q.1 (by decide))).trans (zsg hS zs_170_26))) rfl ?_
        refine w_alu (pc' := 70) (st' := [.int (Int32.ofInt 2), .ref 182]) (ykc_220 (e := (0, .iconst 2, 0)) rfl) rfl rfl ?_
        refine w_load (pc' := 71) (v := .ref A) (m := 1) (ykc_220 (e := (2, .aload_n kF1, 0)) rfl) rfl rfl ?_
        refine w_push (pc' := 73) (v := .int ((Int8.ofInt 24).toInt32)) (m := 2) (ykc_220 (e := (1, .bipush 24, 0)) rfl) rfl rfl ?_
        refine w_load (pc' := 74) (v := .int (zn p)) (m := 1) (ykc_220 (e := (2, .iload_n kF2, 0)) rfl) rfl rfl ?_
        have e157 : ((Int8.ofInt 24).toInt32) + (zn p) = zn (24 + p) := (zaddN (a := 24) (b := p) c_0 (znt (by omega)) (by omega)) 
        have te157 := znt (k := 24 + p) (by omega)
        refine w_alu (pc' := 75) (st' := [.int (zn (24 + p)), .ref A, .int (Int32.ofInt 2), .ref 182]) (ykc_220 (e := (0, .iadd, 0)) rfl) (by rw [← e157]; rfl) rfl ?_
        have q158 := hO0.1 p (by omega)
        have tq158 := znt (k := v (24 + p)) (by omega)
        refine w_ialk (pc' := 76) (k := 24 + p) (ykc_220 (e := (5, .iaload, 0)) rfl) ((u155.2.1 A (24 + p) (fun q => by have q2 := q.1; omega)).trans ((u150.2.1 A (24 + p) (fun q => by have q2 := q.1; omega)).trans (zNr0 hv (i := 24 + p) (by omega)))) (by omega) rfl ?_
        refine w_cs (as := [.int (zn (v (24 + p)))]) (r := [.int (Int32.ofInt 2), .ref 182]) (ykc_220 (e := (6, .invokestatic 265, 0)) rfl) rfl rfl rfl rfl (zj_pc) (fun v159 ph160 hv => ?_)
        obtain ⟨rfl, rfl⟩ := hv
        show zW n D 220 Q 79 [some (.ref 170), some (.ref A), some (.int (zn p)), some (.int (zn br)), some (.int (zn (zct v (v p) k))), some (.int (zn k))] [.int (zpc (zn (v (24 + p)))), .int (Int32.ofInt 2), .ref 182] ph156
        refine w_ias (pc' := 80) (k := 2) (ykc_220 (e := (5, .iastore, 0)) rfl) (by omega) rfl (fun ph162 u161 => ?_)
        refine w_load (pc' := 81) (v := .ref 170) (m := 1) (ykc_220 (e := (2, .aload_n kF0, 0)) rfl) rfl rfl ?_
        refine w_gf (pc' := 84) (v := .ref 182) (ykc_220 (e := (5, .getfield 65, 0)) rfl) rfl ((u161.2.1 170 26 (fun q => absurd q.1 (by decide))).trans ((u155.2.1 170 26 (fun q => absurd q.1 (by decide))).trans ((u150.2.1 170 26 (fun q => absurd q.1 (by decide))).trans (zsg hS zs_170_26)))) rfl ?_
        refine w_alu (pc' := 85) (st' := [.int (Int32.ofInt 3), .ref 182]) (ykc_220 (e := (0, .iconst 3, 0)) rfl) rfl rfl ?_
        refine w_load (pc' := 86) (v := .ref A) (m := 1) (ykc_220 (e := (2, .aload_n kF1, 0)) rfl) rfl rfl ?_
        refine w_push (pc' := 88) (v := .int ((Int8.ofInt 8).toInt32)) (m := 2) (ykc_220 (e := (1, .bipush 8, 0)) rfl) rfl rfl ?_
        refine w_load (pc' := 89) (v := .int (zn p)) (m := 1) (ykc_220 (e := (2, .iload_n kF2, 0)) rfl) rfl rfl ?_
        have e163 : ((Int8.ofInt 8).toInt32) + (zn p) = zn (8 + p) := (zaddN (a := 8) (b := p) c_4 (znt (by omega)) (by omega)) 
        have te163 := znt (k := 8 + p) (by omega)
        refine w_alu (pc' := 90) (st' := [.int (zn (8 + p)), .ref A, .int (Int32.ofInt 3), .ref 182]) (ykc_220 (e := (0, .iadd, 0)) rfl) (by rw [← e163]; rfl) rfl ?_
        have q164 := hO0.1 p (by omega)
        have tq164 := znt (k := v (8 + p)) (by omega)
        refine w_ialk (pc' := 91) (k := 8 + p) (ykc_220 (e := (5, .iaload, 0)) rfl) ((u161.2.1 A (8 + p) (fun q => by have q2 := q.1; omega)).trans ((u155.2.1 A (8 + p) (fun q => by have q2 := q.1; omega)).trans ((u150.2.1 A (8 + p) (fun q => by have q2 := q.1; omega)).trans (zNr0 hv (i := 8 + p) (by omega))))) (by omega) rfl ?_
        refine w_ias (pc' := 92) (k := 3) (ykc_220 (e := (5, .iastore, 0)) rfl) (by omega) rfl (fun ph166 u165 => ?_)
        refine w_load (pc' := 93) (v := .ref 170) (m := 1) (ykc_220 (e := (2, .aload_n kF0, 0)) rfl) rfl rfl ?_
        refine w_gf (pc' := 96) (v := .ref 182) (ykc_220 (e := (5, .getfield 65, 0)) rfl) rfl ((u165.2.1 170 26 (fun q => absurd q.1 (by decide))).trans ((u161.2.1 170 26 (fun q => absurd q.1 (by decide))).trans ((u155.2.1 170 26 (fun q => absurd q.1 (by decide))).trans ((u150.2.1 170 26 (fun q => absurd q.1 (by decide))).trans (zsg hS zs_170_26))))) rfl ?_
        refine w_alu (pc' := 97) (st' := [.int (Int32.ofInt 4), .ref 182]) (ykc_220 (e := (0, .iconst 4, 0)) rfl) rfl rfl ?_
        refine w_load (pc' := 98) (v := .ref A) (m := 1) (ykc_220 (e := (2, .aload_n kF1, 0)) rfl) rfl rfl ?_
        refine w_load (pc' := 99) (v := .int (zn p)) (m := 1) (ykc_220 (e := (2, .iload_n kF2, 0)) rfl) rfl rfl ?_
        have q167 := hO0.1 p (by omega)
        have tq167 := znt (k := v p) (by omega)
        refine w_ialk (pc' := 100) (k := p) (ykc_220 (e := (5, .iaload, 0)) rfl) ((u165.2.1 A p (fun q => by have q2 := q.1; omega)).trans ((u161.2.1 A p (fun q => by have q2 := q.1; omega)).trans ((u155.2.1 A p (fun q => by have q2 := q.1; omega)).trans ((u150.2.1 A p (fun q => by have q2 := q.1; omega)).trans (zNr0 hv (i := p) (by omega)))))) (by omega) rfl ?_
        refine w_load (pc' := 101) (v := .ref 170) (m := 1) (ykc_220 (e := (2, .aload_n kF0, 0)) rfl) rfl rfl ?_
        refine w_gf (pc' := 104) (v := .int (zn C)) (ykc_220 (e := (5, .getfield 27, 0)) rfl) rfl ((u165.2.1 170 4 (fun q => absurd q.1 (by decide))).trans ((u161.2.1 170 4 (fun q => absurd q.1 (by decide))).trans ((u155.2.1 170 4 (fun q => absurd q.1 (by decide))).trans ((u150.2.1 170 4 (fun q => absurd q.1 (by decide))).trans gC)))) rfl ?_
        refine w_idiv (pc' := 105) (ykc_220 (e := (0, .idiv, 0)) rfl) rfl (fun d169 => ?_)
        have m168 : v p / C < R := (Nat.div_lt_iff_lt_mul (by omega)).mpr (by omega)
        have zm168 := Nat.zero_le (v p / C)
        have e170 : (zn (v p)) / (zn C) = zn (v p / C) := zn_of (zdivN (by omega) (by omega) (by omega))
        have te170 := znt (k := v p / C) (by omega)
        rw [e170]
        show zW n D 220 Q 105 [some (.ref 170), some (.ref A), some (.int (zn p)), some (.int (zn br)), some (.int (zn (zct v (v p) k))), some (.int (zn k))] [.int (zn (v p / C)), .int (Int32.ofInt 4), .ref 182] ph166
        refine w_ias (pc' := 106) (k := 4) (ykc_220 (e := (5, .iastore, 0)) rfl) (by omega) rfl (fun ph172 u171 => ?_)
        refine w_load (pc' := 107) (v := .ref 170) (m := 1) (ykc_220 (e := (2, .aload_n kF0, 0)) rfl) rfl rfl ?_
        refine w_gf (pc' := 110) (v := .ref 182) (ykc_220 (e := (5, .getfield 65, 0)) rfl) rfl ((u171.2.1 170 26 (fun q => absurd q.1 (by decide))).trans ((u165.2.1 170 26 (fun q => absurd q.1 (by decide))).trans ((u161.2.1 170 26 (fun q => absurd q.1 (by decide))).trans ((u155.2.1 170 26 (fun q => absurd q.1 (by decide))).trans ((u150.2.1 170 26 (fun q => absurd q.1 (by decide))).trans (zsg hS zs_170_26)))))) rfl ?_
        refine w_alu (pc' := 111) (st' := [.int (Int32.ofInt 5), .ref 182]) (ykc_220 (e := (0, .iconst 5, 0)) rfl) rfl rfl ?_
        refine w_load (pc' := 112) (v := .ref A) (m := 1) (ykc_220 (e := (2, .aload_n kF1, 0)) rfl) rfl rfl ?_
        refine w_load (pc' := 113) (v := .int (zn p)) (m := 1) (ykc_220 (e := (2, .iload_n kF2, 0)) rfl) rfl rfl ?_
        have q173 := hO0.1 p (by omega)
        have tq173 := znt (k := v p) (by omega)
        refine w_ialk (pc' := 114) (k := p) (ykc_220 (e := (5, .iaload, 0)) rfl) ((u171.2.1 A p (fun q => by have q2 := q.1; omega)).trans ((u165.2.1 A p (fun q => by have q2 := q.1; omega)).trans ((u161.2.1 A p (fun q => by have q2 := q.1; omega)).trans ((u155.2.1 A p (fun q => by have q2 := q.1; omega)).trans ((u150.2.1 A p (fun q => by have q2 := q.1; omega)).trans (zNr0 hv (i := p) (by omega))))))) (by omega) rfl ?_
        refine w_load (pc' := 115) (v := .ref 170) (m := 1) (ykc_220 (e := (2, .aload_n kF0, 0)) rfl) rfl rfl ?_
        refine w_gf (pc' := 118) (v := .int (zn C)) (ykc_220 (e := (5, .getfield 27, 0)) rfl) rfl ((u171.2.1 170 4 (fun q => absurd q.1 (by decide))).trans ((u165.2.1 170 4 (fun q => absurd q.1 (by decide))).trans ((u161.2.1 170 4 (fun q => absurd q.1 (by decide))).trans ((u155.2.1 170 4 (fun q => absurd q.1 (by decide))).trans ((u150.2.1 170 4 (fun q => absurd q.1 (by decide))).trans gC))))) rfl ?_
        refine w_irem (pc' := 119) (ykc_220 (e := (0, .irem, 0)) rfl) rfl (fun d175 => ?_)
        have m174 := Nat.mod_lt (v p) (show 0 < C by omega)
        have zm174 := Nat.zero_le (v p % C)
        have e176 : (zn (v p)) - (zn (v p)) / (zn C) * (zn C) = zn (v p % C) := zn_of (zremN (by omega) (by omega) (by omega))
        have te176 := znt (k := v p % C) (by omega)
        rw [e176]
        show zW n D 220 Q 119 [some (.ref 170), some (.ref A), some (.int (zn p)), some (.int (zn br)), some (.int (zn (zct v (v p) k))), some (.int (zn k))] [.int (zn (v p % C)), .int (Int32.ofInt 5), .ref 182] ph172
        refine w_ias (pc' := 120) (k := 5) (ykc_220 (e := (5, .iastore, 0)) rfl) (by omega) rfl (fun ph178 u177 => ?_)
        refine w_load (pc' := 121) (v := .ref 170) (m := 1) (ykc_220 (e := (2, .aload_n kF0, 0)) rfl) rfl rfl ?_
        refine w_gf (pc' := 124) (v := .ref 182) (ykc_220 (e := (5, .getfield 65, 0)) rfl) rfl ((u177.2.1 170 26 (fun q => absurd q.1 (by decide))).trans ((u171.2.1 170 26 (fun q => absurd q.1 (by decide))).trans ((u165.2.1 170 26 (fun q => absurd q.1 (by decide))).trans ((u161.2.1 170 26 (fun q => absurd q.1 (by decide))).trans ((u155.2.1 170 26 (fun q => absurd q.1 (by decide))).trans ((u150.2.1 170 26 (fun q => absurd q.1 (by decide))).trans (zsg hS zs_170_26))))))) rfl ?_
        refine w_push (pc' := 126) (v := .int ((Int8.ofInt 6).toInt32)) (m := 2) (ykc_220 (e := (1, .bipush 6, 0)) rfl) rfl rfl ?_
        refine w_load (pc' := 127) (v := .ref A) (m := 1) (ykc_220 (e := (2, .aload_n kF1, 0)) rfl) rfl rfl ?_
        refine w_push (pc' := 129) (v := .int ((Int8.ofInt 40).toInt32)) (m := 2) (ykc_220 (e := (1, .bipush 40, 0)) rfl) rfl rfl ?_
        have q179 := hO0.2.2
        have tq179 := znt (k := v 40) (by omega)
        refine w_ialk (pc' := 130) (k := 40) (ykc_220 (e := (5, .iaload, 0)) rfl) ((u177.2.1 A 40 (fun q => by have q2 := q.1; omega)).trans ((u171.2.1 A 40 (fun q => by have q2 := q.1; omega)).trans ((u165.2.1 A 40 (fun q => by have q2 := q.1; omega)).trans ((u161.2.1 A 40 (fun q => by have q2 := q.1; omega)).trans ((u155.2.1 A 40 (fun q => by have q2 := q.1; omega)).trans ((u150.2.1 A 40 (fun q => by have q2 := q.1; omega)).trans (zNr0 hv (i := 40) (by omega)))))))) (by omega) rfl ?_
        refine w_push (pc' := 132) (v := .int ((Int8.ofInt 7).toInt32)) (m := 2) (ykc_220 (e := (1, .bipush 7, 0)) rfl) rfl rfl ?_
        refine w_irem (pc' := 133) (ykc_220 (e := (0, .irem, 0)) rfl) rfl (fun d181 => ?_)
        have m180 := Nat.mod_lt (v 40) (show 0 < 7 by omega)
        have zm180 := Nat.zero_le (v 40 % 7)
        have e182 : (zn (v 40)) - (zn (v 40)) / ((Int8.ofInt 7).toInt32) * ((Int8.ofInt 7).toInt32) = zn (v 40 % 7) := zn_of (zremN (by omega) (by omega) (by omega))
        have te182 := znt (k := v 40 % 7) (by omega)
        rw [e182]
        show zW n D 220 Q 133 [some (.ref 170), some (.ref A), some (.int (zn p)), some (.int (zn br)), some (.int (zn (zct v (v p) k))), some (.int (zn k))] [.int (zn (v 40 % 7)), .int ((Int8.ofInt 6).toInt32), .ref 182] ph178
        refine w_ias (pc' := 134) (k := 6) (ykc_220 (e := (5, .iastore, 0)) rfl) (by omega) rfl (fun ph184 u183 => ?_)
        refine w_load (pc' := 135) (v := .ref 170) (m := 1) (ykc_220 (e := (2, .aload_n kF0, 0)) rfl) rfl rfl ?_
        refine w_gf (pc' := 138) (v := .ref 182) (ykc_220 (e := (5, .getfield 65, 0)) rfl) rfl ((u183.2.1 170 26 (fun q => absurd q.1 (by decide))).trans ((u177.2.1 170 26 (fun q => absurd q.1 (by decide))).trans ((u171.2.1 170 26 (fun q => absurd q.1 (by decide))).trans ((u165.2.1 170 26 (fun q => absurd q.1 (by decide))).trans ((u161.2.1 170 26 (fun q => absurd q.1 (by decide))).trans ((u155.2.1 170 26 (fun q => absurd q.1 (by decide))).trans ((u150.2.1 170 26 (fun q => absurd q.1 (by decide))).trans (zsg hS zs_170_26)))))))) rfl ?_
        have ek : k = P := by omega
        refine w_push (pc' := 140) (v := .int ((Int8.ofInt 7).toInt32)) (m := 2) (ykc_220 (e := (1, .bipush 7, 0)) rfl) rfl rfl ?_
        refine w_load (pc' := 142) (v := .int (zn (zct v (v p) k))) (m := 2) (ykc_220 (e := (2, .iload 4, 0)) rfl) rfl rfl ?_
        refine w_ias (pc' := 143) (k := 7) (ykc_220 (e := (5, .iastore, 0)) rfl) (by omega) rfl (fun ph186 u185 => ?_)
        refine w_alu (pc' := 144) (st' := [.int (Int32.ofInt 0)]) (ykc_220 (e := (0, .iconst 0, 0)) rfl) rfl rfl ?_
        refine w_push (pc' := 146) (v := .int ((Int8.ofInt 9).toInt32)) (m := 2) (ykc_220 (e := (1, .bipush 9, 0)) rfl) rfl rfl ?_
        refine w_load (pc' := 147) (v := .ref 170) (m := 1) (ykc_220 (e := (2, .aload_n kF0, 0)) rfl) rfl rfl ?_
        refine w_cv (as := [.ref 170]) (r := [.int ((Int8.ofInt 9).toInt32), .int (Int32.ofInt 0)]) (ykc_220 (e := (6, .invokevirtual 270, 0)) rfl) rfl rfl rfl rfl (zm_ruled (zSc_S (zFr_trans (zFr_trans (zFr_trans (zFr_trans (zFr_trans (zFr_trans (zFr_trans (zFr_st u150 (Or.inl (by simp))) (zFr_st u155 (Or.inl (by simp)))) (zFr_st u161 (Or.inl (by simp)))) (zFr_st u165 (Or.inl (by simp)))) (zFr_st u171 (Or.inl (by simp)))) (zFr_st u177 (Or.inl (by simp)))) (zFr_st u183 (Or.inl (by simp)))) (zFr_st u185 (Or.inl (by simp)))) hS) (zSc_r (zFr_trans (zFr_trans (zFr_trans (zFr_trans (zFr_trans (zFr_trans (zFr_trans (zFr_st u150 (Or.inl (by simp))) (zFr_st u155 (Or.inl (by simp)))) (zFr_st u161 (Or.inl (by simp)))) (zFr_st u165 (Or.inl (by simp)))) (zFr_st u171 (Or.inl (by simp)))) (zFr_st u177 (Or.inl (by simp)))) (zFr_st u183 (Or.inl (by simp)))) (zFr_st u185 (Or.inl (by simp)))) hR0) hcg (as := zas (R, C, rk, sn, sk, cn, cd) P v p br) (fun i hi => by
                  rcases (show i = 0 ∨ i = 1 ∨ i = 2 ∨ i = 3 ∨ i = 4 ∨ i = 5 ∨ i = 6 ∨ i = 7 by omega) with e | e | e | e | e | e | e | e
                  · subst e; exact ((u185.2.1 182 0 (fun q => absurd q.2 (by decide))).trans ((u183.2.1 182 0 (fun q => absurd q.2 (by decide))).trans ((u177.2.1 182 0 (fun q => absurd q.2 (by decide))).trans ((u171.2.1 182 0 (fun q => absurd q.2 (by decide))).trans ((u165.2.1 182 0 (fun q => absurd q.2 (by decide))).trans ((u161.2.1 182 0 (fun q => absurd q.2 (by decide))).trans ((u155.2.1 182 0 (fun q => absurd q.2 (by decide))).trans u150.1))))))).trans (by unfold zas; simp)
                  · subst e; exact ((u185.2.1 182 1 (fun q => absurd q.2 (by decide))).trans ((u183.2.1 182 1 (fun q => absurd q.2 (by decide))).trans ((u177.2.1 182 1 (fun q => absurd q.2 (by decide))).trans ((u171.2.1 182 1 (fun q => absurd q.2 (by decide))).trans ((u165.2.1 182 1 (fun q => absurd q.2 (by decide))).trans ((u161.2.1 182 1 (fun q => absurd q.2 (by decide))).trans u155.1)))))).trans (by unfold zas; simp)
                  · subst e; exact ((u185.2.1 182 2 (fun q => absurd q.2 (by decide))).trans ((u183.2.1 182 2 (fun q => absurd q.2 (by decide))).trans ((u177.2.1 182 2 (fun q => absurd q.2 (by decide))).trans ((u171.2.1 182 2 (fun q => absurd q.2 (by decide))).trans ((u165.2.1 182 2 (fun q => absurd q.2 (by decide))).trans u161.1))))).trans (by unfold zas; simp)
                  · subst e; exact ((u185.2.1 182 3 (fun q => absurd q.2 (by decide))).trans ((u183.2.1 182 3 (fun q => absurd q.2 (by decide))).trans ((u177.2.1 182 3 (fun q => absurd q.2 (by decide))).trans ((u171.2.1 182 3 (fun q => absurd q.2 (by decide))).trans u165.1)))).trans (by unfold zas; simp)
                  · subst e; exact ((u185.2.1 182 4 (fun q => absurd q.2 (by decide))).trans ((u183.2.1 182 4 (fun q => absurd q.2 (by decide))).trans ((u177.2.1 182 4 (fun q => absurd q.2 (by decide))).trans u171.1))).trans (by unfold zas; simp)
                  · subst e; exact ((u185.2.1 182 5 (fun q => absurd q.2 (by decide))).trans ((u183.2.1 182 5 (fun q => absurd q.2 (by decide))).trans u177.1)).trans (by unfold zas; simp)
                  · subst e; exact ((u185.2.1 182 6 (fun q => absurd q.2 (by decide))).trans u183.1).trans (by unfold zas; simp)
                  · subst e; exact u185.1.trans (by unfold zas; simp [ek]))) (fun v188 ph189 hv => ?_)
        obtain ⟨f187, rfl⟩ := hv
        have f187 := zFr_mono (A' := [181, 182]) (F' := []) f187 (by simp) (by simp)
        show zW n D 220 Q 150 [some (.ref 170), some (.ref A), some (.int (zn p)), some (.int (zn br)), some (.int (zn (zct v (v p) k))), some (.int (zn k))] [.int (zval (zas (R, C, rk, sn, sk, cn, cd) P v p br) cn cd), .int ((Int8.ofInt 9).toInt32), .int (Int32.ofInt 0)] ph189
        obtain ⟨z190, e_z190⟩ : ∃ zq : Int32, (if (zval (zas (R, C, rk, sn, sk, cn, cd) P v p br) cn cd) < ((Int8.ofInt 9).toInt32) then (zval (zas (R, C, rk, sn, sk, cn, cd) P v p br) cn cd) else ((Int8.ofInt 9).toInt32)) = zq := ⟨_, rfl⟩
        have h_z190 := zminI e_z190
        refine w_mem1 (pc' := 153) (m := 3) (st' := [.int z190, .int (Int32.ofInt 0)]) (ph' := ph189) (ykc_220 (e := (5, .invokestatic 145, 0)) rfl) (by rw [← e_z190]; rfl) rfl ?_
        obtain ⟨z191, e_z191⟩ : ∃ zq : Int32, (if (Int32.ofInt 0) < z190 then z190 else (Int32.ofInt 0)) = zq := ⟨_, rfl⟩
        have h_z191 := zmaxI e_z191
        refine w_mem1 (pc' := 156) (m := 3) (st' := [.int z191]) (ph' := ph189) (ykc_220 (e := (5, .invokestatic 273, 0)) rfl) (by rw [← e_z191]; rfl) rfl ?_
        refine w_ret (v := (some (.int z191))) (ykc_220 (e := (7, .ireturn, 0)) rfl) (zr_v rfl) ?_
        rw [hQ]
        exact ⟨(zFr_trans (zFr_trans (zFr_trans (zFr_trans (zFr_trans (zFr_trans (zFr_trans (zFr_trans (zFr_st u150 (Or.inl (by simp))) (zFr_st u155 (Or.inl (by simp)))) (zFr_st u161 (Or.inl (by simp)))) (zFr_st u165 (Or.inl (by simp)))) (zFr_st u171 (Or.inl (by simp)))) (zFr_st u177 (Or.inl (by simp)))) (zFr_st u183 (Or.inl (by simp)))) (zFr_st u185 (Or.inl (by simp)))) f187), by rw [zn_of (x := z191) (k := zrc (zval (zas (R, C, rk, sn, sk, cn, cd) P v p br) cn cd)) (by rw [zrcI]; omega)]; rfl⟩
      · refine w_load (pc' := 17) (v := .int (zn (zct v (v p) k))) (m := 2) (ykc_220 (e := (2, .iload 4, 0)) rfl) rfl rfl ?_
        refine w_load (pc' := 18) (v := .ref A) (m := 1) (ykc_220 (e := (2, .aload_n kF1, 0)) rfl) rfl rfl ?_
        refine w_load (pc' := 20) (v := .int (zn k)) (m := 2) (ykc_220 (e := (2, .iload 5, 0)) rfl) rfl rfl ?_
        have q192 := hO0.1 k (by omega)
        have tq192 := znt (k := v k) (by omega)
        refine w_ialk (pc' := 21) (k := k) (ykc_220 (e := (5, .iaload, 0)) rfl) (zNr0 hv (i := k) (by omega)) (by omega) rfl ?_
        refine w_load (pc' := 22) (v := .ref A) (m := 1) (ykc_220 (e := (2, .aload_n kF1, 0)) rfl) rfl rfl ?_
        refine w_load (pc' := 23) (v := .int (zn p)) (m := 1) (ykc_220 (e := (2, .iload_n kF2, 0)) rfl) rfl rfl ?_
        have q193 := hO0.1 p (by omega)
        have tq193 := znt (k := v p) (by omega)
        refine w_ialk (pc' := 24) (k := p) (ykc_220 (e := (5, .iaload, 0)) rfl) (zNr0 hv (i := p) (by omega)) (by omega) rfl ?_
        refine w_ine (ykc_220 (e := (4, .if_icmp .ne 7, 31)) rfl) rfl (fun b194 => ?_) (fun b194 => ?_)
        · refine w_alu (pc' := 32) (st' := [.int (Int32.ofInt 0), .int (zn (zct v (v p) k))]) (ykc_220 (e := (0, .iconst 0, 0)) rfl) rfl rfl ?_
          refine w_cs (as := [.int (Int32.ofInt 0)]) (r := [.int (zn (zct v (v p) k))]) (ykc_220 (e := (6, .invokestatic 154, 0)) rfl) rfl rfl rfl rfl (zm_flag0) (fun v195 ph196 hv => ?_)
          obtain ⟨rfl, rfl⟩ := hv
          have cI1 : (zI true).toInt = 1 := rfl
          have cI0 : (zI false).toInt = 0 := rfl
          show zW n D 220 Q 35 [some (.ref 170), some (.ref A), some (.int (zn p)), some (.int (zn br)), some (.int (zn (zct v (v p) k))), some (.int (zn k))] [.int (zI false), .int (zn (zct v (v p) k))] ph
          have e197 : (zn (zct v (v p) k)) + (zI false) = zn (zct v (v p) k + 0) := (zaddN (a := zct v (v p) k) (b := 0) (znt (by omega)) (by omega) (by omega)) 
          have te197 := znt (k := zct v (v p) k + 0) (by omega)
          refine w_alu (pc' := 36) (st' := [.int (zn (zct v (v p) k + 0))]) (ykc_220 (e := (0, .iadd, 0)) rfl) (by rw [← e197]; rfl) rfl ?_
          refine w_store (pc' := 38) (L' := [some (.ref 170), some (.ref A), some (.int (zn p)), some (.int (zn br)), some (.int (zn (zct v (v p) k + 0))), some (.int (zn k))]) (st' := []) (m := 2) (ykc_220 (e := (3, .istore 4, 0)) rfl) rfl rfl ?_
          have e198 : (zn k) + Int32.ofInt 1 = zn (k + 1) := (zaddN (a := k) (b := 1) (znt (by omega)) c_7 (by omega))
          have te198 := znt (k := k + 1) (by omega)
          refine w_store (pc' := 41) (L' := [some (.ref 170), some (.ref A), some (.int (zn p)), some (.int (zn br)), some (.int (zn (zct v (v p) k + 0))), some (.int (zn (k + 1)))]) (st' := []) (m := 3) (ykc_220 (e := (3, .iinc 5 1, 0)) rfl) (by rw [← e198]; rfl) rfl ?_
          refine w_gb (ykc_220 (e := (4, .goto (-35), 6)) rfl) (fun k199 hk199 => ?_)
          have et : zct v (v p) (k + 1) = zct v (v p) k + 0 := by
            show zct v (v p) k + (if v k = v p then 1 else 0) = _
            rw [if_neg (show ¬ v k = v p by omega)]
          have h9 := ih k199 hk199 (k + 1) (by omega)
          rw [et] at h9
          exact h9
        · refine w_alu (pc' := 28) (st' := [.int (Int32.ofInt 1), .int (zn (zct v (v p) k))]) (ykc_220 (e := (0, .iconst 1, 0)) rfl) rfl rfl ?_
          refine w_br (pc' := 32) (st' := [.int (Int32.ofInt 1), .int (zn (zct v (v p) k))]) (ykc_220 (e := (4, .goto 4, 32)) rfl) rfl ?_
          refine w_cs (as := [.int (Int32.ofInt 1)]) (r := [.int (zn (zct v (v p) k))]) (ykc_220 (e := (6, .invokestatic 154, 0)) rfl) rfl rfl rfl rfl (zm_flag1) (fun v200 ph201 hv => ?_)
          obtain ⟨rfl, rfl⟩ := hv
          have cI1 : (zI true).toInt = 1 := rfl
          have cI0 : (zI false).toInt = 0 := rfl
          show zW n D 220 Q 35 [some (.ref 170), some (.ref A), some (.int (zn p)), some (.int (zn br)), some (.int (zn (zct v (v p) k))), some (.int (zn k))] [.int (zI true), .int (zn (zct v (v p) k))] ph
          have e202 : (zn (zct v (v p) k)) + (zI true) = zn (zct v (v p) k + 1) := (zaddN (a := zct v (v p) k) (b := 1) (znt (by omega)) (by omega) (by omega)) 
          have te202 := znt (k := zct v (v p) k + 1) (by omega)
          refine w_alu (pc' := 36) (st' := [.int (zn (zct v (v p) k + 1))]) (ykc_220 (e := (0, .iadd, 0)) rfl) (by rw [← e202]; rfl) rfl ?_
          refine w_store (pc' := 38) (L' := [some (.ref 170), some (.ref A), some (.int (zn p)), some (.int (zn br)), some (.int (zn (zct v (v p) k + 1))), some (.int (zn k))]) (st' := []) (m := 2) (ykc_220 (e := (3, .istore 4, 0)) rfl) rfl rfl ?_
          have e203 : (zn k) + Int32.ofInt 1 = zn (k + 1) := (zaddN (a := k) (b := 1) (znt (by omega)) c_7 (by omega))
          have te203 := znt (k := k + 1) (by omega)
          refine w_store (pc' := 41) (L' := [some (.ref 170), some (.ref A), some (.int (zn p)), some (.int (zn br)), some (.int (zn (zct v (v p) k + 1))), some (.int (zn (k + 1)))]) (st' := []) (m := 3) (ykc_220 (e := (3, .iinc 5 1, 0)) rfl) (by rw [← e203]; rfl) rfl ?_
          refine w_gb (ykc_220 (e := (4, .goto (-35), 6)) rfl) (fun k204 hk204 => ?_)
          have et : zct v (v p) (k + 1) = zct v (v p) k + 1 := by
            show zct v (v p) k + (if v k = v p then 1 else 0) = _
            rw [if_pos (show v k = v p by omega)]
          have h9 := ih k204 hk204 (k + 1) (by omega)
          rw [et] at h9
          exact h9
  exact hl n 0 (Nat.zero_le _)
theorem zm_does {ph : pm_H} {E : zEn} {P G A : Nat} {v : Nat → Nat} (hS : zSh ph) (hE : zMe ph E) (hN : zMp ph P G) (hA : A = 174 ∨ A = 175) (hv : zNr ph A 0 v) (hO : zOk E.1 E.2.1 P G v) {p g : Nat} (hp : p < P) (hg : g < E.1 * E.2.1) : zM 225 [.ref 170, .ref A, .int (zn p), .int (zn g)] ph (fun v0 q => zSc ph q ∧ v0 = some (.int (zI (zSv E P v p g)))) := by
  obtain ⟨Q, hQ⟩ : ∃ Q : Option Value → pm_H → Prop, Q = (fun v0 q => zSc ph q ∧ v0 = some (.int (zI (zSv E P v p g)))) := ⟨_, rfl⟩
  rw [← hQ]
  refine zM_mk fun n D => ?_
  show zW n D 225 Q 0 [some (.ref 170), some (.ref A), some (.int (zn p)), some (.int (zn g))] [] ph
  have c_0 : ((Int8.ofInt 16).toInt32).toInt = 16 := by decide
  have c_1 : ((Int8.ofInt 8).toInt32).toInt = 8 := by decide
  obtain ⟨R, C, rk, sn, sk, cn, cd⟩ := E
  have hL0 : zMl ph R C rk := hE.1
  have hR0 : zMr ph sn sk cn cd := hE.2.1
  have hcg : zcg cn cd := hE.2.2
  have hE0 : zMe ph (R, C, rk, sn, sk, cn, cd) := hE
  have hO0 : zOk R C P G v := hO
  have hN0 := hN
  have hL := hL0
  have hR := hR0
  obtain ⟨gR, gC, gK, hR3, hR7, hC3, hC7⟩ := hL
  have hRC := zRC49 hR7 hC7
  have tR := znt (k := R) (by omega)
  have tC := znt (k := C) (by omega)
  obtain ⟨gP, hP8, gG, hG8⟩ := hN
  have tP := znt (k := P) (by omega)
  have tG := znt (k := G) (by omega)
  obtain ⟨gsn, hs1, hs20, gsk, gcn, hc40, gcd⟩ := hR
  have tsn := znt (k := sn) (by omega)
  have tcn := znt (k := cn) (by omega)
  have hg0 : g < R * C := hg
  have tp := znt (k := p) (by omega)
  have tg := znt (k := g) (by omega)
  refine w_load (pc' := 1) (v := .ref 170) (m := 1) (ykc_225 (e := (2, .aload_n kF0, 0)) rfl) rfl rfl ?_
  refine w_load (pc' := 2) (v := .ref A) (m := 1) (ykc_225 (e := (2, .aload_n kF1, 0)) rfl) rfl rfl ?_
  refine w_load (pc' := 3) (v := .int (zn p)) (m := 1) (ykc_225 (e := (2, .iload_n kF2, 0)) rfl) rfl rfl ?_
  have q205 := hO0.1 p (by omega)
  have tq205 := znt (k := v p) (by omega)
  refine w_ialk (pc' := 4) (k := p) (ykc_225 (e := (5, .iaload, 0)) rfl) (zNr0 hv (i := p) (by omega)) (by omega) rfl ?_
  refine w_load (pc' := 5) (v := .int (zn g)) (m := 1) (ykc_225 (e := (2, .iload_n kF3, 0)) rfl) rfl rfl ?_
  refine w_load (pc' := 6) (v := .ref A) (m := 1) (ykc_225 (e := (2, .aload_n kF1, 0)) rfl) rfl rfl ?_
  refine w_push (pc' := 8) (v := .int ((Int8.ofInt 8).toInt32)) (m := 2) (ykc_225 (e := (1, .bipush 8, 0)) rfl) rfl rfl ?_
  refine w_load (pc' := 9) (v := .int (zn p)) (m := 1) (ykc_225 (e := (2, .iload_n kF2, 0)) rfl) rfl rfl ?_
  have e206 : ((Int8.ofInt 8).toInt32) + (zn p) = zn (8 + p) := (zaddN (a := 8) (b := p) c_1 (znt (by omega)) (by omega)) 
  have te206 := znt (k := 8 + p) (by omega)
  refine w_alu (pc' := 10) (st' := [.int (zn (8 + p)), .ref A, .int (zn g), .int (zn (v p)), .ref 170]) (ykc_225 (e := (0, .iadd, 0)) rfl) (by rw [← e206]; rfl) rfl ?_
  have q207 := hO0.1 p (by omega)
  have tq207 := znt (k := v (8 + p)) (by omega)
  refine w_ialk (pc' := 11) (k := 8 + p) (ykc_225 (e := (5, .iaload, 0)) rfl) (zNr0 hv (i := 8 + p) (by omega)) (by omega) rfl ?_
  refine w_load (pc' := 12) (v := .ref A) (m := 1) (ykc_225 (e := (2, .aload_n kF1, 0)) rfl) rfl rfl ?_
  refine w_push (pc' := 14) (v := .int ((Int8.ofInt 16).toInt32)) (m := 2) (ykc_225 (e := (1, .bipush 16, 0)) rfl) rfl rfl ?_
  refine w_load (pc' := 15) (v := .int (zn p)) (m := 1) (ykc_225 (e := (2, .iload_n kF2, 0)) rfl) rfl rfl ?_
  have e208 : ((Int8.ofInt 16).toInt32) + (zn p) = zn (16 + p) := (zaddN (a := 16) (b := p) c_0 (znt (by omega)) (by omega)) 
  have te208 := znt (k := 16 + p) (by omega)
  refine w_alu (pc' := 16) (st' := [.int (zn (16 + p)), .ref A, .int (zn (v (8 + p))), .int (zn g), .int (zn (v p)), .ref 170]) (ykc_225 (e := (0, .iadd, 0)) rfl) (by rw [← e208]; rfl) rfl ?_
  have q209 := hO0.1 p (by omega)
  have tq209 := znt (k := v (16 + p)) (by omega)
  refine w_ialk (pc' := 17) (k := 16 + p) (ykc_225 (e := (5, .iaload, 0)) rfl) (zNr0 hv (i := 16 + p) (by omega)) (by omega) rfl ?_
  refine w_load (pc' := 18) (v := .ref 170) (m := 1) (ykc_225 (e := (2, .aload_n kF0, 0)) rfl) rfl rfl ?_
  refine w_load (pc' := 19) (v := .ref A) (m := 1) (ykc_225 (e := (2, .aload_n kF1, 0)) rfl) rfl rfl ?_
  refine w_load (pc' := 20) (v := .int (zn p)) (m := 1) (ykc_225 (e := (2, .iload_n kF2, 0)) rfl) rfl rfl ?_
  refine w_load (pc' := 21) (v := .ref A) (m := 1) (ykc_225 (e := (2, .aload_n kF1, 0)) rfl) rfl rfl ?_
  refine w_push (pc' := 23) (v := .int ((Int8.ofInt 16).toInt32)) (m := 2) (ykc_225 (e := (1, .bipush 16, 0)) rfl) rfl rfl ?_
  refine w_load (pc' := 24) (v := .int (zn p)) (m := 1) (ykc_225 (e := (2, .iload_n kF2, 0)) rfl) rfl rfl ?_
  have e210 : ((Int8.ofInt 16).toInt32) + (zn p) = zn (16 + p) := (zaddN (a := 16) (b := p) c_0 (znt (by omega)) (by omega)) 
  have te210 := znt (k := 16 + p) (by omega)
  refine w_alu (pc' := 25) (st' := [.int (zn (16 + p)), .ref A, .int (zn p), .ref A, .ref 170, .int (zn (v (16 + p))), .int (zn (v (8 + p))), .int (zn g), .int (zn (v p)), .ref 170]) (ykc_225 (e := (0, .iadd, 0)) rfl) (by rw [← e210]; rfl) rfl ?_
  have q211 := hO0.1 p (by omega)
  have tq211 := znt (k := v (16 + p)) (by omega)
  refine w_ialk (pc' := 26) (k := 16 + p) (ykc_225 (e := (5, .iaload, 0)) rfl) (zNr0 hv (i := 16 + p) (by omega)) (by omega) rfl ?_
  refine w_cv (as := [.ref 170, .ref A, .int (zn p), .int (zn (v (16 + p)))]) (r := [.int (zn (v (16 + p))), .int (zn (v (8 + p))), .int (zn g), .int (zn (v p)), .ref 170]) (ykc_225 (e := (6, .invokevirtual 292, 0)) rfl) rfl rfl rfl rfl (zm_reach hS hE0 hN0 (⟨hA, hv⟩ : (A = 174 ∨ A = 175) ∧ zNr ph A 0 v).1 (⟨hA, hv⟩ : (A = 174 ∨ A = 175) ∧ zNr ph A 0 v).2 hO0 (p := p) (br := v (16 + p)) (by omega) (by omega)) (fun v213 ph214 hv => ?_)
  obtain ⟨f212, rfl⟩ := hv
  have rf212 := @zRe_9 (R, C, rk, sn, sk, cn, cd) P v p (v (16 + p))
  have trf212 := znt (k := zRe (R, C, rk, sn, sk, cn, cd) P v p (v (16 + p))) (by omega)
  show zW n D 225 Q 29 [some (.ref 170), some (.ref A), some (.int (zn p)), some (.int (zn g))] [.int (zn (zRe (R, C, rk, sn, sk, cn, cd) P v p (v (16 + p)))), .int (zn (v (16 + p))), .int (zn (v (8 + p))), .int (zn g), .int (zn (v p)), .ref 170] ph214
  refine w_cv (as := [.ref 170, .int (zn (v p)), .int (zn g), .int (zn (v (8 + p))), .int (zn (v (16 + p))), .int (zn (zRe (R, C, rk, sn, sk, cn, cd) P v p (v (16 + p))))]) (r := []) (ykc_225 (e := (6, .invokevirtual 296, 0)) rfl) rfl rfl rfl rfl (zm_sees (zSc_S f212 hS) (zSc_l f212 hL0) (a := v p) (g := g) (fc := v (8 + p)) (br := v (16 + p)) (re := zRe (R, C, rk, sn, sk, cn, cd) P v p (v (16 + p))) (by omega) (by omega) (by omega) (by omega) (by omega) (by omega) (by omega) (by omega) (by omega)) (fun v215 ph216 hv => ?_)
  obtain ⟨rfl, rfl⟩ := hv
  show zW n D 225 Q 32 [some (.ref 170), some (.ref A), some (.int (zn p)), some (.int (zn g))] [.int (zI (zsee C rk (v p) g (v (8 + p)) (v (16 + p)) (zRe (R, C, rk, sn, sk, cn, cd) P v p (v (16 + p)))))] ph214
  refine w_ret (v := (some (.int (zI (zsee C rk (v p) g (v (8 + p)) (v (16 + p)) (zRe (R, C, rk, sn, sk, cn, cd) P v p (v (16 + p)))))))) (ykc_225 (e := (7, .ireturn, 0)) rfl) zr_z ?_
  rw [hQ]
  exact ⟨f212, rfl⟩
theorem zm_seen {ph : pm_H} {E : zEn} {P G A : Nat} {v : Nat → Nat} (hS : zSh ph) (hE : zMe ph E) (hN : zMp ph P G) (hA : A = 174 ∨ A = 175) (hv : zNr ph A 0 v) (hO : zOk E.1 E.2.1 P G v) {p : Nat} (hp : p < P) : zM 226 [.ref 170, .ref A, .int (zn p)] ph (fun v0 q => zSc ph q ∧ v0 = some (.long (zVw E P v p))) := by
  obtain ⟨Q, hQ⟩ : ∃ Q : Option Value → pm_H → Prop, Q = (fun v0 q => zSc ph q ∧ v0 = some (.long (zVw E P v p))) := ⟨_, rfl⟩
  rw [← hQ]
  refine zM_mk fun n D => ?_
  show zW n D 226 Q 0 [some (.ref 170), some (.ref A), some (.int (zn p)), none, none, none, none] [] ph
  have c_0 : ((Int8.ofInt 16).toInt32).toInt = 16 := by decide
  have c_1 : ((Int8.ofInt 8).toInt32).toInt = 8 := by decide
  have c_2 : (Int32.ofInt 0).toInt = 0 := by decide
  have c_3 : (Int32.ofInt 1).toInt = 1 := by decide
  obtain ⟨R, C, rk, sn, sk, cn, cd⟩ := E
  have hL0 : zMl ph R C rk := hE.1
  have hR0 : zMr ph sn sk cn cd := hE.2.1
  have hcg : zcg cn cd := hE.2.2
  have hE0 : zMe ph (R, C, rk, sn, sk, cn, cd) := hE
  have hO0 : zOk R C P G v := hO
  have hN0 := hN
  have hL := hL0
  have hR := hR0
  obtain ⟨gR, gC, gK, hR3, hR7, hC3, hC7⟩ := hL
  have hRC := zRC49 hR7 hC7
  have tR := znt (k := R) (by omega)
  have tC := znt (k := C) (by omega)
  obtain ⟨gP, hP8, gG, hG8⟩ := hN
  have tP := znt (k := P) (by omega)
  have tG := znt (k := G) (by omega)
  obtain ⟨gsn, hs1, hs20, gsk, gcn, hc40, gcd⟩ := hR
  have tsn := znt (k := sn) (by omega)
  have tcn := znt (k := cn) (by omega)
  have tp := znt (k := p) (by omega)
  refine w_load (pc' := 1) (v := .ref 170) (m := 1) (ykc_226 (e := (2, .aload_n kF0, 0)) rfl) rfl rfl ?_
  refine w_load (pc' := 2) (v := .ref A) (m := 1) (ykc_226 (e := (2, .aload_n kF1, 0)) rfl) rfl rfl ?_
  refine w_load (pc' := 3) (v := .int (zn p)) (m := 1) (ykc_226 (e := (2, .iload_n kF2, 0)) rfl) rfl rfl ?_
  refine w_load (pc' := 4) (v := .ref A) (m := 1) (ykc_226 (e := (2, .aload_n kF1, 0)) rfl) rfl rfl ?_
  refine w_push (pc' := 6) (v := .int ((Int8.ofInt 16).toInt32)) (m := 2) (ykc_226 (e := (1, .bipush 16, 0)) rfl) rfl rfl ?_
  refine w_load (pc' := 7) (v := .int (zn p)) (m := 1) (ykc_226 (e := (2, .iload_n kF2, 0)) rfl) rfl rfl ?_
  have e217 : ((Int8.ofInt 16).toInt32) + (zn p) = zn (16 + p) := (zaddN (a := 16) (b := p) c_0 (znt (by omega)) (by omega)) 
  have te217 := znt (k := 16 + p) (by omega)
  refine w_alu (pc' := 8) (st' := [.int (zn (16 + p)), .ref A, .int (zn p), .ref A, .ref 170]) (ykc_226 (e := (0, .iadd, 0)) rfl) (by rw [← e217]; rfl) rfl ?_
  have q218 := hO0.1 p (by omega)
  have tq218 := znt (k := v (16 + p)) (by omega)
  refine w_ialk (pc' := 9) (k := 16 + p) (ykc_226 (e := (5, .iaload, 0)) rfl) (zNr0 hv (i := 16 + p) (by omega)) (by omega) rfl ?_
  refine w_cv (as := [.ref 170, .ref A, .int (zn p), .int (zn (v (16 + p)))]) (r := []) (ykc_226 (e := (6, .invokevirtual 292, 0)) rfl) rfl rfl rfl rfl (zm_reach hS hE0 hN0 (⟨hA, hv⟩ : (A = 174 ∨ A = 175) ∧ zNr ph A 0 v).1 (⟨hA, hv⟩ : (A = 174 ∨ A = 175) ∧ zNr ph A 0 v).2 hO0 (p := p) (br := v (16 + p)) (by omega) (by omega)) (fun v220 ph221 hv => ?_)
  obtain ⟨f219, rfl⟩ := hv
  have rf219 := @zRe_9 (R, C, rk, sn, sk, cn, cd) P v p (v (16 + p))
  have trf219 := znt (k := zRe (R, C, rk, sn, sk, cn, cd) P v p (v (16 + p))) (by omega)
  show zW n D 226 Q 12 [some (.ref 170), some (.ref A), some (.int (zn p)), none, none, none, none] [.int (zn (zRe (R, C, rk, sn, sk, cn, cd) P v p (v (16 + p))))] ph221
  refine w_store (pc' := 13) (L' := [some (.ref 170), some (.ref A), some (.int (zn p)), some (.int (zn (zRe (R, C, rk, sn, sk, cn, cd) P v p (v (16 + p))))), none, none, none]) (st' := []) (m := 1) (ykc_226 (e := (3, .istore_n kF3, 0)) rfl) rfl rfl ?_
  refine w_alu (pc' := 14) (st' := [.long (Int64.ofNat kG0)]) (ykc_226 (e := (0, .lconst kG0, 0)) rfl) rfl rfl ?_
  refine w_store (pc' := 16) (L' := [some (.ref 170), some (.ref A), some (.int (zn p)), some (.int (zn (zRe (R, C, rk, sn, sk, cn, cd) P v p (v (16 + p))))), some (.long (Int64.ofNat kG0)), none, none]) (st' := []) (m := 2) (ykc_226 (e := (3, .lstore 4, 0)) rfl) rfl rfl ?_
  refine w_alu (pc' := 17) (st' := [.int (Int32.ofInt 0)]) (ykc_226 (e := (0, .iconst 0, 0)) rfl) rfl rfl ?_
  refine w_store (pc' := 19) (L' := [some (.ref 170), some (.ref A), some (.int (zn p)), some (.int (zn (zRe (R, C, rk, sn, sk, cn, cd) P v p (v (16 + p))))), some (.long (Int64.ofNat kG0)), none, some (.int (Int32.ofInt 0))]) (st' := []) (m := 2) (ykc_226 (e := (3, .istore 6, 0)) rfl) rfl rfl ?_
  have hl : ∀ (n : Nat), ∀ (k : Nat), (k ≤ R * C) → zW n D 226 Q 19 [some (.ref 170), some (.ref A), some (.int (zn p)), some (.int (zn (zRe (R, C, rk, sn, sk, cn, cd) P v p (v (16 + p))))), some (.long (zS (zSv (R, C, rk, sn, sk, cn, cd) P v p) k)), none, some (.int (zn k))] [] ph221 := by
    intro n
    induction n using Nat.strongRecOn with
    | ind n ih =>
      intro k hk
      have tk := znt (k := k) (by omega)
      refine w_load (pc' := 21) (v := .int (zn k)) (m := 2) (ykc_226 (e := (2, .iload 6, 0)) rfl) rfl rfl ?_
      refine w_load (pc' := 22) (v := .ref 170) (m := 1) (ykc_226 (e := (2, .aload_n kF0, 0)) rfl) rfl rfl ?_
      refine w_cv (as := [.ref 170]) (r := [.int (zn k)]) (ykc_226 (e := (6, .invokevirtual 122, 0)) rfl) rfl rfl rfl rfl (zm_fields (zSc_S f219 hS) (zSc_l f219 hL0)) (fun v222 ph223 hv => ?_)
      obtain ⟨rfl, rfl⟩ := hv
      have tRC := znt (k := R * C) (by omega)
      show zW n D 226 Q 25 [some (.ref 170), some (.ref A), some (.int (zn p)), some (.int (zn (zRe (R, C, rk, sn, sk, cn, cd) P v p (v (16 + p))))), some (.long (zS (zSv (R, C, rk, sn, sk, cn, cd) P v p) k)), none, some (.int (zn k))] [.int (zn (R * C)), .int (zn k)] ph221
      refine w_ige (ykc_226 (e := (4, .if_icmp .ge 47, 72)) rfl) rfl (fun b224 => ?_) (fun b224 => ?_)
      · refine w_load (pc' := 74) (v := .long (zS (zSv (R, C, rk, sn, sk, cn, cd) P v p) k)) (m := 2) (ykc_226 (e := (2, .lload 4, 0)) rfl) rfl rfl ?_
        refine w_ret (v := (some (.long (zS (zSv (R, C, rk, sn, sk, cn, cd) P v p) k)))) (ykc_226 (e := (7, .lreturn, 0)) rfl) (zr_v rfl) ?_
        have ek : k = R * C := by omega
        subst ek
        rw [hQ]
        exact ⟨f219, rfl⟩
      · refine w_load (pc' := 30) (v := .long (zS (zSv (R, C, rk, sn, sk, cn, cd) P v p) k)) (m := 2) (ykc_226 (e := (2, .lload 4, 0)) rfl) rfl rfl ?_
        refine w_load (pc' := 31) (v := .ref 170) (m := 1) (ykc_226 (e := (2, .aload_n kF0, 0)) rfl) rfl rfl ?_
        refine w_load (pc' := 32) (v := .ref A) (m := 1) (ykc_226 (e := (2, .aload_n kF1, 0)) rfl) rfl rfl ?_
        refine w_load (pc' := 33) (v := .int (zn p)) (m := 1) (ykc_226 (e := (2, .iload_n kF2, 0)) rfl) rfl rfl ?_
        have q225 := hO0.1 p (by omega)
        have tq225 := znt (k := v p) (by omega)
        refine w_ialk (pc' := 34) (k := p) (ykc_226 (e := (5, .iaload, 0)) rfl) ((f219.1 A p (by simp <;> omega) (by simp <;> omega)).trans (zNr0 hv (i := p) (by omega))) (by omega) rfl ?_
        refine w_load (pc' := 36) (v := .int (zn k)) (m := 2) (ykc_226 (e := (2, .iload 6, 0)) rfl) rfl rfl ?_
        refine w_load (pc' := 37) (v := .ref A) (m := 1) (ykc_226 (e := (2, .aload_n kF1, 0)) rfl) rfl rfl ?_
        refine w_push (pc' := 39) (v := .int ((Int8.ofInt 8).toInt32)) (m := 2) (ykc_226 (e := (1, .bipush 8, 0)) rfl) rfl rfl ?_
        refine w_load (pc' := 40) (v := .int (zn p)) (m := 1) (ykc_226 (e := (2, .iload_n kF2, 0)) rfl) rfl rfl ?_
        have e226 : ((Int8.ofInt 8).toInt32) + (zn p) = zn (8 + p) := (zaddN (a := 8) (b := p) c_1 (znt (by omega)) (by omega)) 
        have te226 := znt (k := 8 + p) (by omega)
        refine w_alu (pc' := 41) (st' := [.int (zn (8 + p)), .ref A, .int (zn k), .int (zn (v p)), .ref 170, .long (zS (zSv (R, C, rk, sn, sk, cn, cd) P v p) k)]) (ykc_226 (e := (0, .iadd, 0)) rfl) (by rw [← e226]; rfl) rfl ?_
        have q227 := hO0.1 p (by omega)
        have tq227 := znt (k := v (8 + p)) (by omega)
        refine w_ialk (pc' := 42) (k := 8 + p) (ykc_226 (e := (5, .iaload, 0)) rfl) ((f219.1 A (8 + p) (by simp <;> omega) (by simp <;> omega)).trans (zNr0 hv (i := 8 + p) (by omega))) (by omega) rfl ?_
        refine w_load (pc' := 43) (v := .ref A) (m := 1) (ykc_226 (e := (2, .aload_n kF1, 0)) rfl) rfl rfl ?_
        refine w_push (pc' := 45) (v := .int ((Int8.ofInt 16).toInt32)) (m := 2) (ykc_226 (e := (1, .bipush 16, 0)) rfl) rfl rfl ?_
        refine w_load (pc' := 46) (v := .int (zn p)) (m := 1) (ykc_226 (e := (2, .iload_n kF2, 0)) rfl) rfl rfl ?_
        have e228 : ((Int8.ofInt 16).toInt32) + (zn p) = zn (16 + p) := (zaddN (a := 16) (b := p) c_0 (znt (by omega)) (by omega)) 
        have te228 := znt (k := 16 + p) (by omega)
        refine w_alu (pc' := 47) (st' := [.int (zn (16 + p)), .ref A, .int (zn (v (8 + p))), .int (zn k), .int (zn (v p)), .ref 170, .long (zS (zSv (R, C, rk, sn, sk, cn, cd) P v p) k)]) (ykc_226 (e := (0, .iadd, 0)) rfl) (by rw [← e228]; rfl) rfl ?_
        have q229 := hO0.1 p (by omega)
        have tq229 := znt (k := v (16 + p)) (by omega)
        refine w_ialk (pc' := 48) (k := 16 + p) (ykc_226 (e := (5, .iaload, 0)) rfl) ((f219.1 A (16 + p) (by simp <;> omega) (by simp <;> omega)).trans (zNr0 hv (i := 16 + p) (by omega))) (by omega) rfl ?_
        refine w_load (pc' := 49) (v := .int (zn (zRe (R, C, rk, sn, sk, cn, cd) P v p (v (16 + p))))) (m := 1) (ykc_226 (e := (2, .iload_n kF3, 0)) rfl) rfl rfl ?_
        refine w_cv (as := [.ref 170, .int (zn (v p)), .int (zn k), .int (zn (v (8 + p))), .int (zn (v (16 + p))), .int (zn (zRe (R, C, rk, sn, sk, cn, cd) P v p (v (16 + p))))]) (r := [.long (zS (zSv (R, C, rk, sn, sk, cn, cd) P v p) k)]) (ykc_226 (e := (6, .invokevirtual 296, 0)) rfl) rfl rfl rfl rfl (zm_sees (zSc_S f219 hS) (zSc_l f219 hL0) (a := v p) (g := k) (fc := v (8 + p)) (br := v (16 + p)) (re := zRe (R, C, rk, sn, sk, cn, cd) P v p (v (16 + p))) (by omega) (by omega) (by omega) (by omega) (by omega) (by omega) (by omega) (by omega) (by omega)) (fun v230 ph231 hv => ?_)
        obtain ⟨rfl, rfl⟩ := hv
        show zW n D 226 Q 52 [some (.ref 170), some (.ref A), some (.int (zn p)), some (.int (zn (zRe (R, C, rk, sn, sk, cn, cd) P v p (v (16 + p))))), some (.long (zS (zSv (R, C, rk, sn, sk, cn, cd) P v p) k)), none, some (.int (zn k))] [.int (zI (zsee C rk (v p) k (v (8 + p)) (v (16 + p)) (zRe (R, C, rk, sn, sk, cn, cd) P v p (v (16 + p))))), .long (zS (zSv (R, C, rk, sn, sk, cn, cd) P v p) k)] ph221
        refine w_beq (ykc_226 (e := (4, .ifCond .eq 10, 62)) rfl) rfl (fun b232 => ?_) (fun b232 => ?_)
        · refine w_alu (pc' := 63) (st' := [.long (Int64.ofNat kG0), .long (zS (zSv (R, C, rk, sn, sk, cn, cd) P v p) k)]) (ykc_226 (e := (0, .lconst kG0, 0)) rfl) rfl rfl ?_
          refine w_alu (pc' := 64) (st' := [.long ((zS (zSv (R, C, rk, sn, sk, cn, cd) P v p) k) ||| (Int64.ofNat kG0))]) (ykc_226 (e := (0, .lor, 0)) rfl) rfl rfl ?_
          refine w_store (pc' := 66) (L' := [some (.ref 170), some (.ref A), some (.int (zn p)), some (.int (zn (zRe (R, C, rk, sn, sk, cn, cd) P v p (v (16 + p))))), some (.long ((zS (zSv (R, C, rk, sn, sk, cn, cd) P v p) k) ||| (Int64.ofNat kG0))), none, some (.int (zn k))]) (st' := []) (m := 2) (ykc_226 (e := (3, .lstore 4, 0)) rfl) rfl rfl ?_
          have e233 : (zn k) + Int32.ofInt 1 = zn (k + 1) := (zaddN (a := k) (b := 1) (znt (by omega)) c_3 (by omega))
          have te233 := znt (k := k + 1) (by omega)
          refine w_store (pc' := 69) (L' := [some (.ref 170), some (.ref A), some (.int (zn p)), some (.int (zn (zRe (R, C, rk, sn, sk, cn, cd) P v p (v (16 + p))))), some (.long ((zS (zSv (R, C, rk, sn, sk, cn, cd) P v p) k) ||| (Int64.ofNat kG0))), none, some (.int (zn (k + 1)))]) (st' := []) (m := 3) (ykc_226 (e := (3, .iinc 6 1, 0)) rfl) (by rw [← e233]; rfl) rfl ?_
          refine w_gb (ykc_226 (e := (4, .goto (-50), 19)) rfl) (fun k234 hk234 => ?_)
          have et : zS (zSv (R, C, rk, sn, sk, cn, cd) P v p) (k + 1) = (zS (zSv (R, C, rk, sn, sk, cn, cd) P v p) k) ||| (Int64.ofNat kG0) := by
            show (zS (zSv (R, C, rk, sn, sk, cn, cd) P v p) k ||| bif (zSv (R, C, rk, sn, sk, cn, cd) P v p) k then _ else _) = _
            rw [show (zSv (R, C, rk, sn, sk, cn, cd) P v p) k = false from b232]
            rfl
          have h9 := ih k234 hk234 (k + 1) (by omega)
          rw [et] at h9
          exact h9
        · refine w_alu (pc' := 56) (st' := [.long (Int64.ofNat kG1), .long (zS (zSv (R, C, rk, sn, sk, cn, cd) P v p) k)]) (ykc_226 (e := (0, .lconst kG1, 0)) rfl) rfl rfl ?_
          refine w_load (pc' := 58) (v := .int (zn k)) (m := 2) (ykc_226 (e := (2, .iload 6, 0)) rfl) rfl rfl ?_
          refine w_alu (pc' := 59) (st' := [.long ((Int64.ofNat kG1) <<< ((zn k).toInt64 &&& 63)), .long (zS (zSv (R, C, rk, sn, sk, cn, cd) P v p) k)]) (ykc_226 (e := (0, .lshl, 0)) rfl) rfl rfl ?_
          refine w_br (pc' := 63) (st' := [.long ((Int64.ofNat kG1) <<< ((zn k).toInt64 &&& 63)), .long (zS (zSv (R, C, rk, sn, sk, cn, cd) P v p) k)]) (ykc_226 (e := (4, .goto 4, 63)) rfl) rfl ?_
          refine w_alu (pc' := 64) (st' := [.long ((zS (zSv (R, C, rk, sn, sk, cn, cd) P v p) k) ||| ((Int64.ofNat kG1) <<< ((zn k).toInt64 &&& 63)))]) (ykc_226 (e := (0, .lor, 0)) rfl) rfl rfl ?_
          refine w_store (pc' := 66) (L' := [some (.ref 170), some (.ref A), some (.int (zn p)), some (.int (zn (zRe (R, C, rk, sn, sk, cn, cd) P v p (v (16 + p))))), some (.long ((zS (zSv (R, C, rk, sn, sk, cn, cd) P v p) k) ||| ((Int64.ofNat kG1) <<< ((zn k).toInt64 &&& 63)))), none, some (.int (zn k))]) (st' := []) (m := 2) (ykc_226 (e := (3, .lstore 4, 0)) rfl) rfl rfl ?_
          have e235 : (zn k) + Int32.ofInt 1 = zn (k + 1) := (zaddN (a := k) (b := 1) (znt (by omega)) c_3 (by omega))
          have te235 := znt (k := k + 1) (by omega)
          refine w_store (pc' := 69) (L' := [some (.ref 170), some (.ref A), some (.int (zn p)), some (.int (zn (zRe (R, C, rk, sn, sk, cn, cd) P v p (v (16 + p))))), some (.long ((zS (zSv (R, C, rk, sn, sk, cn, cd) P v p) k) ||| ((Int64.ofNat kG1) <<< ((zn k).toInt64 &&& 63)))), none, some (.int (zn (k + 1)))]) (st' := []) (m := 3) (ykc_226 (e := (3, .iinc 6 1, 0)) rfl) (by rw [← e235]; rfl) rfl ?_
          refine w_gb (ykc_226 (e := (4, .goto (-50), 19)) rfl) (fun k236 hk236 => ?_)
          have et : zS (zSv (R, C, rk, sn, sk, cn, cd) P v p) (k + 1) = (zS (zSv (R, C, rk, sn, sk, cn, cd) P v p) k) ||| ((Int64.ofNat kG1) <<< ((zn k).toInt64 &&& 63)) := by
            show (zS (zSv (R, C, rk, sn, sk, cn, cd) P v p) k ||| bif (zSv (R, C, rk, sn, sk, cn, cd) P v p) k then _ else _) = _
            rw [show (zSv (R, C, rk, sn, sk, cn, cd) P v p) k = true from b232]
            rfl
          have h9 := ih k236 hk236 (k + 1) (by omega)
          rw [et] at h9
          exact h9
  exact hl n 0 (Nat.zero_le _)
theorem zm_all {ph : pm_H} {E : zEn} {P G A : Nat} {v : Nat → Nat} (hS : zSh ph) (hE : zMe ph E) (hN : zMp ph P G) (hA : A = 174 ∨ A = 175) (hv : zNr ph A 0 v) (hO : zOk E.1 E.2.1 P G v) : zM 227 [.ref 170, .ref A] ph (fun v0 q => zSc ph q ∧ v0 = some (.long (zAll E P v))) := by
  obtain ⟨Q, hQ⟩ : ∃ Q : Option Value → pm_H → Prop, Q = (fun v0 q => zSc ph q ∧ v0 = some (.long (zAll E P v))) := ⟨_, rfl⟩
  rw [← hQ]
  refine zM_mk fun n D => ?_
  show zW n D 227 Q 0 [some (.ref 170), some (.ref A), none, none, none] [] ph
  have c_0 : (Int32.ofInt 0).toInt = 0 := by decide
  have c_1 : (Int32.ofInt 1).toInt = 1 := by decide
  obtain ⟨R, C, rk, sn, sk, cn, cd⟩ := E
  have hL0 : zMl ph R C rk := hE.1
  have hR0 : zMr ph sn sk cn cd := hE.2.1
  have hcg : zcg cn cd := hE.2.2
  have hE0 : zMe ph (R, C, rk, sn, sk, cn, cd) := hE
  have hO0 : zOk R C P G v := hO
  have hN0 := hN
  have hL := hL0
  have hR := hR0
  obtain ⟨gR, gC, gK, hR3, hR7, hC3, hC7⟩ := hL
  have hRC := zRC49 hR7 hC7
  have tR := znt (k := R) (by omega)
  have tC := znt (k := C) (by omega)
  obtain ⟨gP, hP8, gG, hG8⟩ := hN
  have tP := znt (k := P) (by omega)
  have tG := znt (k := G) (by omega)
  obtain ⟨gsn, hs1, hs20, gsk, gcn, hc40, gcd⟩ := hR
  have tsn := znt (k := sn) (by omega)
  have tcn := znt (k := cn) (by omega)
  refine w_alu (pc' := 1) (st' := [.long (Int64.ofNat kG0)]) (ykc_227 (e := (0, .lconst kG0, 0)) rfl) rfl rfl ?_
  refine w_store (pc' := 2) (L' := [some (.ref 170), some (.ref A), some (.long (Int64.ofNat kG0)), none, none]) (st' := []) (m := 1) (ykc_227 (e := (3, .lstore_n kF2, 0)) rfl) rfl rfl ?_
  refine w_alu (pc' := 3) (st' := [.int (Int32.ofInt 0)]) (ykc_227 (e := (0, .iconst 0, 0)) rfl) rfl rfl ?_
  refine w_store (pc' := 5) (L' := [some (.ref 170), some (.ref A), some (.long (Int64.ofNat kG0)), none, some (.int (Int32.ofInt 0))]) (st' := []) (m := 2) (ykc_227 (e := (3, .istore 4, 0)) rfl) rfl rfl ?_
  have hl : ∀ (n : Nat), ∀ (k : Nat) (ph1 : pm_H), (k ≤ P) → (zSc ph ph1) → zW n D 227 Q 5 [some (.ref 170), some (.ref A), some (.long (zU (zVw (R, C, rk, sn, sk, cn, cd) P v) k)), none, some (.int (zn k))] [] ph1 := by
    intro n
    induction n using Nat.strongRecOn with
    | ind n ih =>
      intro k ph1 hk hf
      have tk := znt (k := k) (by omega)
      refine w_load (pc' := 7) (v := .int (zn k)) (m := 2) (ykc_227 (e := (2, .iload 4, 0)) rfl) rfl rfl ?_
      refine w_load (pc' := 8) (v := .ref 170) (m := 1) (ykc_227 (e := (2, .aload_n kF0, 0)) rfl) rfl rfl ?_
      refine w_gf (pc' := 11) (v := .int (zn P)) (ykc_227 (e := (5, .getfield 130, 0)) rfl) rfl ((hf.1 170 5 (by decide) (by decide)).trans gP) rfl ?_
      refine w_ige (ykc_227 (e := (4, .if_icmp .ge 19, 30)) rfl) rfl (fun b237 => ?_) (fun b237 => ?_)
      · refine w_load (pc' := 31) (v := .long (zU (zVw (R, C, rk, sn, sk, cn, cd) P v) k)) (m := 1) (ykc_227 (e := (2, .lload_n kF2, 0)) rfl) rfl rfl ?_
        refine w_ret (v := (some (.long (zU (zVw (R, C, rk, sn, sk, cn, cd) P v) k)))) (ykc_227 (e := (7, .lreturn, 0)) rfl) (zr_v rfl) ?_
        have ek : P = k := by omega
        subst ek
        rw [hQ]
        exact ⟨hf, rfl⟩
      · refine w_load (pc' := 15) (v := .long (zU (zVw (R, C, rk, sn, sk, cn, cd) P v) k)) (m := 1) (ykc_227 (e := (2, .lload_n kF2, 0)) rfl) rfl rfl ?_
        refine w_load (pc' := 16) (v := .ref 170) (m := 1) (ykc_227 (e := (2, .aload_n kF0, 0)) rfl) rfl rfl ?_
        refine w_load (pc' := 17) (v := .ref A) (m := 1) (ykc_227 (e := (2, .aload_n kF1, 0)) rfl) rfl rfl ?_
        refine w_load (pc' := 19) (v := .int (zn k)) (m := 2) (ykc_227 (e := (2, .iload 4, 0)) rfl) rfl rfl ?_
        refine w_cv (as := [.ref 170, .ref A, .int (zn k)]) (r := [.long (zU (zVw (R, C, rk, sn, sk, cn, cd) P v) k)]) (ykc_227 (e := (6, .invokevirtual 300, 0)) rfl) rfl rfl rfl rfl (zm_seen (zSc_S hf hS) (zSc_e hf hE0) (zSc_p hf hN0) (zSc_a hf (⟨hA, hv⟩ : (A = 174 ∨ A = 175) ∧ zNr ph A 0 v)).1 (zSc_a hf (⟨hA, hv⟩ : (A = 174 ∨ A = 175) ∧ zNr ph A 0 v)).2 hO0 (p := k) (by omega)) (fun v239 ph240 hv => ?_)
        obtain ⟨f238, rfl⟩ := hv
        show zW n D 227 Q 22 [some (.ref 170), some (.ref A), some (.long (zU (zVw (R, C, rk, sn, sk, cn, cd) P v) k)), none, some (.int (zn k))] [.long (zVw (R, C, rk, sn, sk, cn, cd) P v k), .long (zU (zVw (R, C, rk, sn, sk, cn, cd) P v) k)] ph240
        refine w_alu (pc' := 23) (st' := [.long ((zU (zVw (R, C, rk, sn, sk, cn, cd) P v) k) ||| (zVw (R, C, rk, sn, sk, cn, cd) P v k))]) (ykc_227 (e := (0, .lor, 0)) rfl) rfl rfl ?_
        refine w_store (pc' := 24) (L' := [some (.ref 170), some (.ref A), some (.long ((zU (zVw (R, C, rk, sn, sk, cn, cd) P v) k) ||| (zVw (R, C, rk, sn, sk, cn, cd) P v k))), none, some (.int (zn k))]) (st' := []) (m := 1) (ykc_227 (e := (3, .lstore_n kF2, 0)) rfl) rfl rfl ?_
        have e241 : (zn k) + Int32.ofInt 1 = zn (k + 1) := (zaddN (a := k) (b := 1) (znt (by omega)) c_1 (by omega))
        have te241 := znt (k := k + 1) (by omega)
        refine w_store (pc' := 27) (L' := [some (.ref 170), some (.ref A), some (.long ((zU (zVw (R, C, rk, sn, sk, cn, cd) P v) k) ||| (zVw (R, C, rk, sn, sk, cn, cd) P v k))), none, some (.int (zn (k + 1)))]) (st' := []) (m := 3) (ykc_227 (e := (3, .iinc 4 1, 0)) rfl) (by rw [← e241]; rfl) rfl ?_
        refine w_gb (ykc_227 (e := (4, .goto (-22), 5)) rfl) (fun k242 hk242 => ?_)
        exact ih k242 hk242 (k + 1) _ (by omega) (zFr_trans hf f238)
  exact hl n 0 ph (Nat.zero_le _) zFr_refl
theorem zm_ton {ph : pm_H} {E : zEn} {P G A : Nat} {v : Nat → Nat} (hS : zSh ph) (hE : zMe ph E) (hN : zMp ph P G) (hA : A = 174 ∨ A = 175) (hv : zNr ph A 0 v) (hO : zOk E.1 E.2.1 P G v) {x : Int64} : zM 228 [.ref 170, .ref A, .long x] ph (fun v0 q => ph = q ∧ v0 = some (.int (zTon G v x))) := by
  obtain ⟨Q, hQ⟩ : ∃ Q : Option Value → pm_H → Prop, Q = (fun v0 q => ph = q ∧ v0 = some (.int (zTon G v x))) := ⟨_, rfl⟩
  rw [← hQ]
  refine zM_mk fun n D => ?_
  show zW n D 228 Q 0 [some (.ref 170), some (.ref A), some (.long x), none, none, none] [] ph
  have c_0 : ((Int8.ofInt 32).toInt32).toInt = 32 := by decide
  have c_1 : (Int32.ofInt 0).toInt = 0 := by decide
  have c_2 : (Int32.ofInt 1).toInt = 1 := by decide
  obtain ⟨R, C, rk, sn, sk, cn, cd⟩ := E
  have hL0 : zMl ph R C rk := hE.1
  have hR0 : zMr ph sn sk cn cd := hE.2.1
  have hcg : zcg cn cd := hE.2.2
  have hE0 : zMe ph (R, C, rk, sn, sk, cn, cd) := hE
  have hO0 : zOk R C P G v := hO
  have hN0 := hN
  have hL := hL0
  have hR := hR0
  obtain ⟨gR, gC, gK, hR3, hR7, hC3, hC7⟩ := hL
  have hRC := zRC49 hR7 hC7
  have tR := znt (k := R) (by omega)
  have tC := znt (k := C) (by omega)
  obtain ⟨gP, hP8, gG, hG8⟩ := hN
  have tP := znt (k := P) (by omega)
  have tG := znt (k := G) (by omega)
  obtain ⟨gsn, hs1, hs20, gsk, gcn, hc40, gcd⟩ := hR
  have tsn := znt (k := sn) (by omega)
  have tcn := znt (k := cn) (by omega)
  refine w_alu (pc' := 1) (st' := [.int (Int32.ofInt 0)]) (ykc_228 (e := (0, .iconst 0, 0)) rfl) rfl rfl ?_
  refine w_store (pc' := 3) (L' := [some (.ref 170), some (.ref A), some (.long x), none, some (.int (Int32.ofInt 0)), none]) (st' := []) (m := 2) (ykc_228 (e := (3, .istore 4, 0)) rfl) rfl rfl ?_
  refine w_alu (pc' := 4) (st' := [.int (Int32.ofInt 0)]) (ykc_228 (e := (0, .iconst 0, 0)) rfl) rfl rfl ?_
  refine w_store (pc' := 6) (L' := [some (.ref 170), some (.ref A), some (.long x), none, some (.int (Int32.ofInt 0)), some (.int (Int32.ofInt 0))]) (st' := []) (m := 2) (ykc_228 (e := (3, .istore 5, 0)) rfl) rfl rfl ?_
  have hl : ∀ (n : Nat), ∀ (k : Nat), (k ≤ G) → zW n D 228 Q 6 [some (.ref 170), some (.ref A), some (.long x), none, some (.int (zT (fun t => zb x (v (32 + t))) k)), some (.int (zn k))] [] ph := by
    intro n
    induction n using Nat.strongRecOn with
    | ind n ih =>
      intro k hk
      have tk := znt (k := k) (by omega)
      refine w_load (pc' := 8) (v := .int (zn k)) (m := 2) (ykc_228 (e := (2, .iload 5, 0)) rfl) rfl rfl ?_
      refine w_load (pc' := 9) (v := .ref 170) (m := 1) (ykc_228 (e := (2, .aload_n kF0, 0)) rfl) rfl rfl ?_
      refine w_gf (pc' := 12) (v := .int (zn G)) (ykc_228 (e := (5, .getfield 133, 0)) rfl) rfl gG rfl ?_
      refine w_ige (ykc_228 (e := (4, .if_icmp .ge 36, 48)) rfl) rfl (fun b243 => ?_) (fun b243 => ?_)
      · refine w_load (pc' := 50) (v := .int (zT (fun t => zb x (v (32 + t))) k)) (m := 2) (ykc_228 (e := (2, .iload 4, 0)) rfl) rfl rfl ?_
        refine w_ret (v := (some (.int (zT (fun t => zb x (v (32 + t))) k)))) (ykc_228 (e := (7, .ireturn, 0)) rfl) (zr_v rfl) ?_
        have ek : G = k := by omega
        subst ek
        rw [hQ]
        exact ⟨rfl, rfl⟩
      · refine w_load (pc' := 17) (v := .int (zT (fun t => zb x (v (32 + t))) k)) (m := 2) (ykc_228 (e := (2, .iload 4, 0)) rfl) rfl rfl ?_
        refine w_load (pc' := 18) (v := .long x) (m := 1) (ykc_228 (e := (2, .lload_n kF2, 0)) rfl) rfl rfl ?_
        refine w_load (pc' := 19) (v := .ref A) (m := 1) (ykc_228 (e := (2, .aload_n kF1, 0)) rfl) rfl rfl ?_
        refine w_push (pc' := 21) (v := .int ((Int8.ofInt 32).toInt32)) (m := 2) (ykc_228 (e := (1, .bipush 32, 0)) rfl) rfl rfl ?_
        refine w_load (pc' := 23) (v := .int (zn k)) (m := 2) (ykc_228 (e := (2, .iload 5, 0)) rfl) rfl rfl ?_
        have e244 : ((Int8.ofInt 32).toInt32) + (zn k) = zn (32 + k) := (zaddN (a := 32) (b := k) c_0 (znt (by omega)) (by omega)) 
        have te244 := znt (k := 32 + k) (by omega)
        refine w_alu (pc' := 24) (st' := [.int (zn (32 + k)), .ref A, .long x, .int (zT (fun t => zb x (v (32 + t))) k)]) (ykc_228 (e := (0, .iadd, 0)) rfl) (by rw [← e244]; rfl) rfl ?_
        have q245 := hO0.2.1 k (by omega)
        have tq245 := znt (k := v (32 + k)) (by omega)
        refine w_ialk (pc' := 25) (k := 32 + k) (ykc_228 (e := (5, .iaload, 0)) rfl) (zNr0 hv (i := 32 + k) (by omega)) (by omega) rfl ?_
        refine w_cs (as := [.long x, .int (zn (v (32 + k)))]) (r := [.int (zT (fun t => zb x (v (32 + t))) k)]) (ykc_228 (e := (6, .invokestatic 304, 0)) rfl) rfl rfl rfl rfl (zm_has (kn := v (32 + k)) (by omega) (by omega)) (fun v246 ph247 hv => ?_)
        obtain ⟨rfl, rfl⟩ := hv
        show zW n D 228 Q 28 [some (.ref 170), some (.ref A), some (.long x), none, some (.int (zT (fun t => zb x (v (32 + t))) k)), some (.int (zn k))] [.int (zI (zb x (v (32 + k)))), .int (zT (fun t => zb x (v (32 + t))) k)] ph
        refine w_beq (ykc_228 (e := (4, .ifCond .eq 10, 38)) rfl) rfl (fun b248 => ?_) (fun b248 => ?_)
        · refine w_alu (pc' := 39) (st' := [.int (Int32.ofInt 0), .int (zT (fun t => zb x (v (32 + t))) k)]) (ykc_228 (e := (0, .iconst 0, 0)) rfl) rfl rfl ?_
          refine w_alu (pc' := 40) (st' := [.int ((zT (fun t => zb x (v (32 + t))) k) ||| (Int32.ofInt 0))]) (ykc_228 (e := (0, .ior, 0)) rfl) rfl rfl ?_
          refine w_store (pc' := 42) (L' := [some (.ref 170), some (.ref A), some (.long x), none, some (.int ((zT (fun t => zb x (v (32 + t))) k) ||| (Int32.ofInt 0))), some (.int (zn k))]) (st' := []) (m := 2) (ykc_228 (e := (3, .istore 4, 0)) rfl) rfl rfl ?_
          have e249 : (zn k) + Int32.ofInt 1 = zn (k + 1) := (zaddN (a := k) (b := 1) (znt (by omega)) c_2 (by omega))
          have te249 := znt (k := k + 1) (by omega)
          refine w_store (pc' := 45) (L' := [some (.ref 170), some (.ref A), some (.long x), none, some (.int ((zT (fun t => zb x (v (32 + t))) k) ||| (Int32.ofInt 0))), some (.int (zn (k + 1)))]) (st' := []) (m := 3) (ykc_228 (e := (3, .iinc 5 1, 0)) rfl) (by rw [← e249]; rfl) rfl ?_
          refine w_gb (ykc_228 (e := (4, .goto (-39), 6)) rfl) (fun k250 hk250 => ?_)
          have et : zT (fun t => zb x (v (32 + t))) (k + 1) = (zT (fun t => zb x (v (32 + t))) k) ||| (Int32.ofInt 0) := by
            show (zT (fun t => zb x (v (32 + t))) k ||| bif (fun t => zb x (v (32 + t))) k then _ else _) = _
            rw [show (fun t => zb x (v (32 + t))) k = false from b248]
            rfl
          have h9 := ih k250 hk250 (k + 1) (by omega)
          rw [et] at h9
          exact h9
        · refine w_alu (pc' := 32) (st' := [.int (Int32.ofInt 1), .int (zT (fun t => zb x (v (32 + t))) k)]) (ykc_228 (e := (0, .iconst 1, 0)) rfl) rfl rfl ?_
          refine w_load (pc' := 34) (v := .int (zn k)) (m := 2) (ykc_228 (e := (2, .iload 5, 0)) rfl) rfl rfl ?_
          refine w_alu (pc' := 35) (st' := [.int ((Int32.ofInt 1) <<< ((zn k) &&& 31)), .int (zT (fun t => zb x (v (32 + t))) k)]) (ykc_228 (e := (0, .ishl, 0)) rfl) rfl rfl ?_
          refine w_br (pc' := 39) (st' := [.int ((Int32.ofInt 1) <<< ((zn k) &&& 31)), .int (zT (fun t => zb x (v (32 + t))) k)]) (ykc_228 (e := (4, .goto 4, 39)) rfl) rfl ?_
          refine w_alu (pc' := 40) (st' := [.int ((zT (fun t => zb x (v (32 + t))) k) ||| ((Int32.ofInt 1) <<< ((zn k) &&& 31)))]) (ykc_228 (e := (0, .ior, 0)) rfl) rfl rfl ?_
          refine w_store (pc' := 42) (L' := [some (.ref 170), some (.ref A), some (.long x), none, some (.int ((zT (fun t => zb x (v (32 + t))) k) ||| ((Int32.ofInt 1) <<< ((zn k) &&& 31)))), some (.int (zn k))]) (st' := []) (m := 2) (ykc_228 (e := (3, .istore 4, 0)) rfl) rfl rfl ?_
          have e251 : (zn k) + Int32.ofInt 1 = zn (k + 1) := (zaddN (a := k) (b := 1) (znt (by omega)) c_2 (by omega))
          have te251 := znt (k := k + 1) (by omega)
          refine w_store (pc' := 45) (L' := [some (.ref 170), some (.ref A), some (.long x), none, some (.int ((zT (fun t => zb x (v (32 + t))) k) ||| ((Int32.ofInt 1) <<< ((zn k) &&& 31)))), some (.int (zn (k + 1)))]) (st' := []) (m := 3) (ykc_228 (e := (3, .iinc 5 1, 0)) rfl) (by rw [← e251]; rfl) rfl ?_
          refine w_gb (ykc_228 (e := (4, .goto (-39), 6)) rfl) (fun k252 hk252 => ?_)
          have et : zT (fun t => zb x (v (32 + t))) (k + 1) = (zT (fun t => zb x (v (32 + t))) k) ||| ((Int32.ofInt 1) <<< ((zn k) &&& 31)) := by
            show (zT (fun t => zb x (v (32 + t))) k ||| bif (fun t => zb x (v (32 + t))) k then _ else _) = _
            rw [show (fun t => zb x (v (32 + t))) k = true from b248]
            rfl
          have h9 := ih k252 hk252 (k + 1) (by omega)
          rw [et] at h9
          exact h9
  exact hl n 0 (Nat.zero_le _)
theorem zm_pon {ph : pm_H} {E : zEn} {P G A : Nat} {v : Nat → Nat} (hS : zSh ph) (hE : zMe ph E) (hN : zMp ph P G) (hA : A = 174 ∨ A = 175) (hv : zNr ph A 0 v) (hO : zOk E.1 E.2.1 P G v) {x : Int64} : zM 229 [.ref 170, .ref A, .long x] ph (fun v0 q => ph = q ∧ v0 = some (.int (zPon P v x))) := by
  obtain ⟨Q, hQ⟩ : ∃ Q : Option Value → pm_H → Prop, Q = (fun v0 q => ph = q ∧ v0 = some (.int (zPon P v x))) := ⟨_, rfl⟩
  rw [← hQ]
  refine zM_mk fun n D => ?_
  show zW n D 229 Q 0 [some (.ref 170), some (.ref A), some (.long x), none, none, none] [] ph
  have c_0 : (Int32.ofInt 0).toInt = 0 := by decide
  have c_1 : (Int32.ofInt 1).toInt = 1 := by decide
  obtain ⟨R, C, rk, sn, sk, cn, cd⟩ := E
  have hL0 : zMl ph R C rk := hE.1
  have hR0 : zMr ph sn sk cn cd := hE.2.1
  have hcg : zcg cn cd := hE.2.2
  have hE0 : zMe ph (R, C, rk, sn, sk, cn, cd) := hE
  have hO0 : zOk R C P G v := hO
  have hN0 := hN
  have hL := hL0
  have hR := hR0
  obtain ⟨gR, gC, gK, hR3, hR7, hC3, hC7⟩ := hL
  have hRC := zRC49 hR7 hC7
  have tR := znt (k := R) (by omega)
  have tC := znt (k := C) (by omega)
  obtain ⟨gP, hP8, gG, hG8⟩ := hN
  have tP := znt (k := P) (by omega)
  have tG := znt (k := G) (by omega)
  obtain ⟨gsn, hs1, hs20, gsk, gcn, hc40, gcd⟩ := hR
  have tsn := znt (k := sn) (by omega)
  have tcn := znt (k := cn) (by omega)
  refine w_alu (pc' := 1) (st' := [.int (Int32.ofInt 0)]) (ykc_229 (e := (0, .iconst 0, 0)) rfl) rfl rfl ?_
  refine w_store (pc' := 3) (L' := [some (.ref 170), some (.ref A), some (.long x), none, some (.int (Int32.ofInt 0)), none]) (st' := []) (m := 2) (ykc_229 (e := (3, .istore 4, 0)) rfl) rfl rfl ?_
  refine w_alu (pc' := 4) (st' := [.int (Int32.ofInt 0)]) (ykc_229 (e := (0, .iconst 0, 0)) rfl) rfl rfl ?_
  refine w_store (pc' := 6) (L' := [some (.ref 170), some (.ref A), some (.long x), none, some (.int (Int32.ofInt 0)), some (.int (Int32.ofInt 0))]) (st' := []) (m := 2) (ykc_229 (e := (3, .istore 5, 0)) rfl) rfl rfl ?_
  have hl : ∀ (n : Nat), ∀ (k : Nat), (k ≤ P) → zW n D 229 Q 6 [some (.ref 170), some (.ref A), some (.long x), none, some (.int (zT (fun p => zb x (v p)) k)), some (.int (zn k))] [] ph := by
    intro n
    induction n using Nat.strongRecOn with
    | ind n ih =>
      intro k hk
      have tk := znt (k := k) (by omega)
      refine w_load (pc' := 8) (v := .int (zn k)) (m := 2) (ykc_229 (e := (2, .iload 5, 0)) rfl) rfl rfl ?_
      refine w_load (pc' := 9) (v := .ref 170) (m := 1) (ykc_229 (e := (2, .aload_n kF0, 0)) rfl) rfl rfl ?_
      refine w_gf (pc' := 12) (v := .int (zn P)) (ykc_229 (e := (5, .getfield 130, 0)) rfl) rfl gP rfl ?_
      refine w_ige (ykc_229 (e := (4, .if_icmp .ge 33, 45)) rfl) rfl (fun b253 => ?_) (fun b253 => ?_)
      · refine w_load (pc' := 47) (v := .int (zT (fun p => zb x (v p)) k)) (m := 2) (ykc_229 (e := (2, .iload 4, 0)) rfl) rfl rfl ?_
        refine w_ret (v := (some (.int (zT (fun p => zb x (v p)) k)))) (ykc_229 (e := (7, .ireturn, 0)) rfl) (zr_v rfl) ?_
        have ek : P = k := by omega
        subst ek
        rw [hQ]
        exact ⟨rfl, rfl⟩
      · refine w_load (pc' := 17) (v := .int (zT (fun p => zb x (v p)) k)) (m := 2) (ykc_229 (e := (2, .iload 4, 0)) rfl) rfl rfl ?_
        refine w_load (pc' := 18) (v := .long x) (m := 1) (ykc_229 (e := (2, .lload_n kF2, 0)) rfl) rfl rfl ?_
        refine w_load (pc' := 19) (v := .ref A) (m := 1) (ykc_229 (e := (2, .aload_n kF1, 0)) rfl) rfl rfl ?_
        refine w_load (pc' := 21) (v := .int (zn k)) (m := 2) (ykc_229 (e := (2, .iload 5, 0)) rfl) rfl rfl ?_
        have q254 := hO0.1 k (by omega)
        have tq254 := znt (k := v k) (by omega)
        refine w_ialk (pc' := 22) (k := k) (ykc_229 (e := (5, .iaload, 0)) rfl) (zNr0 hv (i := k) (by omega)) (by omega) rfl ?_
        refine w_cs (as := [.long x, .int (zn (v k))]) (r := [.int (zT (fun p => zb x (v p)) k)]) (ykc_229 (e := (6, .invokestatic 304, 0)) rfl) rfl rfl rfl rfl (zm_has (kn := v k) (by omega) (by omega)) (fun v255 ph256 hv => ?_)
        obtain ⟨rfl, rfl⟩ := hv
        show zW n D 229 Q 25 [some (.ref 170), some (.ref A), some (.long x), none, some (.int (zT (fun p => zb x (v p)) k)), some (.int (zn k))] [.int (zI (zb x (v k))), .int (zT (fun p => zb x (v p)) k)] ph
        refine w_beq (ykc_229 (e := (4, .ifCond .eq 10, 35)) rfl) rfl (fun b257 => ?_) (fun b257 => ?_)
        · refine w_alu (pc' := 36) (st' := [.int (Int32.ofInt 0), .int (zT (fun p => zb x (v p)) k)]) (ykc_229 (e := (0, .iconst 0, 0)) rfl) rfl rfl ?_
          refine w_alu (pc' := 37) (st' := [.int ((zT (fun p => zb x (v p)) k) ||| (Int32.ofInt 0))]) (ykc_229 (e := (0, .ior, 0)) rfl) rfl rfl ?_
          refine w_store (pc' := 39) (L' := [some (.ref 170), some (.ref A), some (.long x), none, some (.int ((zT (fun p => zb x (v p)) k) ||| (Int32.ofInt 0))), some (.int (zn k))]) (st' := []) (m := 2) (ykc_229 (e := (3, .istore 4, 0)) rfl) rfl rfl ?_
          have e258 : (zn k) + Int32.ofInt 1 = zn (k + 1) := (zaddN (a := k) (b := 1) (znt (by omega)) c_1 (by omega))
          have te258 := znt (k := k + 1) (by omega)
          refine w_store (pc' := 42) (L' := [some (.ref 170), some (.ref A), some (.long x), none, some (.int ((zT (fun p => zb x (v p)) k) ||| (Int32.ofInt 0))), some (.int (zn (k + 1)))]) (st' := []) (m := 3) (ykc_229 (e := (3, .iinc 5 1, 0)) rfl) (by rw [← e258]; rfl) rfl ?_
          refine w_gb (ykc_229 (e := (4, .goto (-36), 6)) rfl) (fun k259 hk259 => ?_)
          have et : zT (fun p => zb x (v p)) (k + 1) = (zT (fun p => zb x (v p)) k) ||| (Int32.ofInt 0) := by
            show (zT (fun p => zb x (v p)) k ||| bif (fun p => zb x (v p)) k then _ else _) = _
            rw [show (fun p => zb x (v p)) k = false from b257]
            rfl
          have h9 := ih k259 hk259 (k + 1) (by omega)
          rw [et] at h9
          exact h9
        · refine w_alu (pc' := 29) (st' := [.int (Int32.ofInt 1), .int (zT (fun p => zb x (v p)) k)]) (ykc_229 (e := (0, .iconst 1, 0)) rfl) rfl rfl ?_
          refine w_load (pc' := 31) (v := .int (zn k)) (m := 2) (ykc_229 (e := (2, .iload 5, 0)) rfl) rfl rfl ?_
          refine w_alu (pc' := 32) (st' := [.int ((Int32.ofInt 1) <<< ((zn k) &&& 31)), .int (zT (fun p => zb x (v p)) k)]) (ykc_229 (e := (0, .ishl, 0)) rfl) rfl rfl ?_
          refine w_br (pc' := 36) (st' := [.int ((Int32.ofInt 1) <<< ((zn k) &&& 31)), .int (zT (fun p => zb x (v p)) k)]) (ykc_229 (e := (4, .goto 4, 36)) rfl) rfl ?_
          refine w_alu (pc' := 37) (st' := [.int ((zT (fun p => zb x (v p)) k) ||| ((Int32.ofInt 1) <<< ((zn k) &&& 31)))]) (ykc_229 (e := (0, .ior, 0)) rfl) rfl rfl ?_
          refine w_store (pc' := 39) (L' := [some (.ref 170), some (.ref A), some (.long x), none, some (.int ((zT (fun p => zb x (v p)) k) ||| ((Int32.ofInt 1) <<< ((zn k) &&& 31)))), some (.int (zn k))]) (st' := []) (m := 2) (ykc_229 (e := (3, .istore 4, 0)) rfl) rfl rfl ?_
          have e260 : (zn k) + Int32.ofInt 1 = zn (k + 1) := (zaddN (a := k) (b := 1) (znt (by omega)) c_1 (by omega))
          have te260 := znt (k := k + 1) (by omega)
          refine w_store (pc' := 42) (L' := [some (.ref 170), some (.ref A), some (.long x), none, some (.int ((zT (fun p => zb x (v p)) k) ||| ((Int32.ofInt 1) <<< ((zn k) &&& 31)))), some (.int (zn (k + 1)))]) (st' := []) (m := 3) (ykc_229 (e := (3, .iinc 5 1, 0)) rfl) (by rw [← e260]; rfl) rfl ?_
          refine w_gb (ykc_229 (e := (4, .goto (-36), 6)) rfl) (fun k261 hk261 => ?_)
          have et : zT (fun p => zb x (v p)) (k + 1) = (zT (fun p => zb x (v p)) k) ||| ((Int32.ofInt 1) <<< ((zn k) &&& 31)) := by
            show (zT (fun p => zb x (v p)) k ||| bif (fun p => zb x (v p)) k then _ else _) = _
            rw [show (fun p => zb x (v p)) k = true from b257]
            rfl
          have h9 := ih k261 hk261 (k + 1) (by omega)
          rw [et] at h9
          exact h9
  exact hl n 0 (Nat.zero_le _)
theorem zm_who {ph : pm_H} {E : zEn} {P G A : Nat} {v : Nat → Nat} (hS : zSh ph) (hE : zMe ph E) (hN : zMp ph P G) (hA : A = 174 ∨ A = 175) (hv : zNr ph A 0 v) (hO : zOk E.1 E.2.1 P G v) {g : Nat} (hg : g < E.1 * E.2.1) : zM 230 [.ref 170, .ref A, .int (zn g)] ph (fun v0 q => zSc ph q ∧ v0 = some (.int (zWho E P v g))) := by
  obtain ⟨Q, hQ⟩ : ∃ Q : Option Value → pm_H → Prop, Q = (fun v0 q => zSc ph q ∧ v0 = some (.int (zWho E P v g))) := ⟨_, rfl⟩
  rw [← hQ]
  refine zM_mk fun n D => ?_
  show zW n D 230 Q 0 [some (.ref 170), some (.ref A), some (.int (zn g)), none, none] [] ph
  have c_0 : (Int32.ofInt 0).toInt = 0 := by decide
  have c_1 : (Int32.ofInt 1).toInt = 1 := by decide
  obtain ⟨R, C, rk, sn, sk, cn, cd⟩ := E
  have hL0 : zMl ph R C rk := hE.1
  have hR0 : zMr ph sn sk cn cd := hE.2.1
  have hcg : zcg cn cd := hE.2.2
  have hE0 : zMe ph (R, C, rk, sn, sk, cn, cd) := hE
  have hO0 : zOk R C P G v := hO
  have hN0 := hN
  have hL := hL0
  have hR := hR0
  obtain ⟨gR, gC, gK, hR3, hR7, hC3, hC7⟩ := hL
  have hRC := zRC49 hR7 hC7
  have tR := znt (k := R) (by omega)
  have tC := znt (k := C) (by omega)
  obtain ⟨gP, hP8, gG, hG8⟩ := hN
  have tP := znt (k := P) (by omega)
  have tG := znt (k := G) (by omega)
  obtain ⟨gsn, hs1, hs20, gsk, gcn, hc40, gcd⟩ := hR
  have tsn := znt (k := sn) (by omega)
  have tcn := znt (k := cn) (by omega)
  have hg0 : g < R * C := hg
  have tg := znt (k := g) (by omega)
  refine w_alu (pc' := 1) (st' := [.int (Int32.ofInt 0)]) (ykc_230 (e := (0, .iconst 0, 0)) rfl) rfl rfl ?_
  refine w_store (pc' := 2) (L' := [some (.ref 170), some (.ref A), some (.int (zn g)), some (.int (Int32.ofInt 0)), none]) (st' := []) (m := 1) (ykc_230 (e := (3, .istore_n kF3, 0)) rfl) rfl rfl ?_
  refine w_alu (pc' := 3) (st' := [.int (Int32.ofInt 0)]) (ykc_230 (e := (0, .iconst 0, 0)) rfl) rfl rfl ?_
  refine w_store (pc' := 5) (L' := [some (.ref 170), some (.ref A), some (.int (zn g)), some (.int (Int32.ofInt 0)), some (.int (Int32.ofInt 0))]) (st' := []) (m := 2) (ykc_230 (e := (3, .istore 4, 0)) rfl) rfl rfl ?_
  have hl : ∀ (n : Nat), ∀ (k : Nat) (ph1 : pm_H), (k ≤ P) → (zSc ph ph1) → zW n D 230 Q 5 [some (.ref 170), some (.ref A), some (.int (zn g)), some (.int (zT (fun p => zSv (R, C, rk, sn, sk, cn, cd) P v p g) k)), some (.int (zn k))] [] ph1 := by
    intro n
    induction n using Nat.strongRecOn with
    | ind n ih =>
      intro k ph1 hk hf
      have tk := znt (k := k) (by omega)
      refine w_load (pc' := 7) (v := .int (zn k)) (m := 2) (ykc_230 (e := (2, .iload 4, 0)) rfl) rfl rfl ?_
      refine w_load (pc' := 8) (v := .ref 170) (m := 1) (ykc_230 (e := (2, .aload_n kF0, 0)) rfl) rfl rfl ?_
      refine w_gf (pc' := 11) (v := .int (zn P)) (ykc_230 (e := (5, .getfield 130, 0)) rfl) rfl ((hf.1 170 5 (by decide) (by decide)).trans gP) rfl ?_
      refine w_ige (ykc_230 (e := (4, .if_icmp .ge 31, 42)) rfl) rfl (fun b262 => ?_) (fun b262 => ?_)
      · refine w_load (pc' := 43) (v := .int (zT (fun p => zSv (R, C, rk, sn, sk, cn, cd) P v p g) k)) (m := 1) (ykc_230 (e := (2, .iload_n kF3, 0)) rfl) rfl rfl ?_
        refine w_ret (v := (some (.int (zT (fun p => zSv (R, C, rk, sn, sk, cn, cd) P v p g) k)))) (ykc_230 (e := (7, .ireturn, 0)) rfl) (zr_v rfl) ?_
        have ek : P = k := by omega
        subst ek
        rw [hQ]
        exact ⟨hf, rfl⟩
      · refine w_load (pc' := 15) (v := .int (zT (fun p => zSv (R, C, rk, sn, sk, cn, cd) P v p g) k)) (m := 1) (ykc_230 (e := (2, .iload_n kF3, 0)) rfl) rfl rfl ?_
        refine w_load (pc' := 16) (v := .ref 170) (m := 1) (ykc_230 (e := (2, .aload_n kF0, 0)) rfl) rfl rfl ?_
        refine w_load (pc' := 17) (v := .ref A) (m := 1) (ykc_230 (e := (2, .aload_n kF1, 0)) rfl) rfl rfl ?_
        refine w_load (pc' := 19) (v := .int (zn k)) (m := 2) (ykc_230 (e := (2, .iload 4, 0)) rfl) rfl rfl ?_
        refine w_load (pc' := 20) (v := .int (zn g)) (m := 1) (ykc_230 (e := (2, .iload_n kF2, 0)) rfl) rfl rfl ?_
        refine w_cv (as := [.ref 170, .ref A, .int (zn k), .int (zn g)]) (r := [.int (zT (fun p => zSv (R, C, rk, sn, sk, cn, cd) P v p g) k)]) (ykc_230 (e := (6, .invokevirtual 308, 0)) rfl) rfl rfl rfl rfl (zm_does (zSc_S hf hS) (zSc_e hf hE0) (zSc_p hf hN0) (zSc_a hf (⟨hA, hv⟩ : (A = 174 ∨ A = 175) ∧ zNr ph A 0 v)).1 (zSc_a hf (⟨hA, hv⟩ : (A = 174 ∨ A = 175) ∧ zNr ph A 0 v)).2 hO0 (p := k) (g := g) (by omega) (show g < R * C by omega)) (fun v264 ph265 hv => ?_)
        obtain ⟨f263, rfl⟩ := hv
        show zW n D 230 Q 23 [some (.ref 170), some (.ref A), some (.int (zn g)), some (.int (zT (fun p => zSv (R, C, rk, sn, sk, cn, cd) P v p g) k)), some (.int (zn k))] [.int (zI (zSv (R, C, rk, sn, sk, cn, cd) P v k g)), .int (zT (fun p => zSv (R, C, rk, sn, sk, cn, cd) P v p g) k)] ph265
        refine w_beq (ykc_230 (e := (4, .ifCond .eq 10, 33)) rfl) rfl (fun b266 => ?_) (fun b266 => ?_)
        · refine w_alu (pc' := 34) (st' := [.int (Int32.ofInt 0), .int (zT (fun p => zSv (R, C, rk, sn, sk, cn, cd) P v p g) k)]) (ykc_230 (e := (0, .iconst 0, 0)) rfl) rfl rfl ?_
          refine w_alu (pc' := 35) (st' := [.int ((zT (fun p => zSv (R, C, rk, sn, sk, cn, cd) P v p g) k) ||| (Int32.ofInt 0))]) (ykc_230 (e := (0, .ior, 0)) rfl) rfl rfl ?_
          refine w_store (pc' := 36) (L' := [some (.ref 170), some (.ref A), some (.int (zn g)), some (.int ((zT (fun p => zSv (R, C, rk, sn, sk, cn, cd) P v p g) k) ||| (Int32.ofInt 0))), some (.int (zn k))]) (st' := []) (m := 1) (ykc_230 (e := (3, .istore_n kF3, 0)) rfl) rfl rfl ?_
          have e267 : (zn k) + Int32.ofInt 1 = zn (k + 1) := (zaddN (a := k) (b := 1) (znt (by omega)) c_1 (by omega))
          have te267 := znt (k := k + 1) (by omega)
          refine w_store (pc' := 39) (L' := [some (.ref 170), some (.ref A), some (.int (zn g)), some (.int ((zT (fun p => zSv (R, C, rk, sn, sk, cn, cd) P v p g) k) ||| (Int32.ofInt 0))), some (.int (zn (k + 1)))]) (st' := []) (m := 3) (ykc_230 (e := (3, .iinc 4 1, 0)) rfl) (by rw [← e267]; rfl) rfl ?_
          refine w_gb (ykc_230 (e := (4, .goto (-34), 5)) rfl) (fun k268 hk268 => ?_)
          have et : zT (fun p => zSv (R, C, rk, sn, sk, cn, cd) P v p g) (k + 1) = (zT (fun p => zSv (R, C, rk, sn, sk, cn, cd) P v p g) k) ||| (Int32.ofInt 0) := by
            show (zT (fun p => zSv (R, C, rk, sn, sk, cn, cd) P v p g) k ||| bif (fun p => zSv (R, C, rk, sn, sk, cn, cd) P v p g) k then _ else _) = _
            rw [show (fun p => zSv (R, C, rk, sn, sk, cn, cd) P v p g) k = false from b266]
            rfl
          have h9 := ih k268 hk268 (k + 1) _ (by omega) (zFr_trans hf f263)
          rw [et] at h9
          exact h9
        · refine w_alu (pc' := 27) (st' := [.int (Int32.ofInt 1), .int (zT (fun p => zSv (R, C, rk, sn, sk, cn, cd) P v p g) k)]) (ykc_230 (e := (0, .iconst 1, 0)) rfl) rfl rfl ?_
          refine w_load (pc' := 29) (v := .int (zn k)) (m := 2) (ykc_230 (e := (2, .iload 4, 0)) rfl) rfl rfl ?_
          refine w_alu (pc' := 30) (st' := [.int ((Int32.ofInt 1) <<< ((zn k) &&& 31)), .int (zT (fun p => zSv (R, C, rk, sn, sk, cn, cd) P v p g) k)]) (ykc_230 (e := (0, .ishl, 0)) rfl) rfl rfl ?_
          refine w_br (pc' := 34) (st' := [.int ((Int32.ofInt 1) <<< ((zn k) &&& 31)), .int (zT (fun p => zSv (R, C, rk, sn, sk, cn, cd) P v p g) k)]) (ykc_230 (e := (4, .goto 4, 34)) rfl) rfl ?_
          refine w_alu (pc' := 35) (st' := [.int ((zT (fun p => zSv (R, C, rk, sn, sk, cn, cd) P v p g) k) ||| ((Int32.ofInt 1) <<< ((zn k) &&& 31)))]) (ykc_230 (e := (0, .ior, 0)) rfl) rfl rfl ?_
          refine w_store (pc' := 36) (L' := [some (.ref 170), some (.ref A), some (.int (zn g)), some (.int ((zT (fun p => zSv (R, C, rk, sn, sk, cn, cd) P v p g) k) ||| ((Int32.ofInt 1) <<< ((zn k) &&& 31)))), some (.int (zn k))]) (st' := []) (m := 1) (ykc_230 (e := (3, .istore_n kF3, 0)) rfl) rfl rfl ?_
          have e269 : (zn k) + Int32.ofInt 1 = zn (k + 1) := (zaddN (a := k) (b := 1) (znt (by omega)) c_1 (by omega))
          have te269 := znt (k := k + 1) (by omega)
          refine w_store (pc' := 39) (L' := [some (.ref 170), some (.ref A), some (.int (zn g)), some (.int ((zT (fun p => zSv (R, C, rk, sn, sk, cn, cd) P v p g) k) ||| ((Int32.ofInt 1) <<< ((zn k) &&& 31)))), some (.int (zn (k + 1)))]) (st' := []) (m := 3) (ykc_230 (e := (3, .iinc 4 1, 0)) rfl) (by rw [← e269]; rfl) rfl ?_
          refine w_gb (ykc_230 (e := (4, .goto (-34), 5)) rfl) (fun k270 hk270 => ?_)
          have et : zT (fun p => zSv (R, C, rk, sn, sk, cn, cd) P v p g) (k + 1) = (zT (fun p => zSv (R, C, rk, sn, sk, cn, cd) P v p g) k) ||| ((Int32.ofInt 1) <<< ((zn k) &&& 31)) := by
            show (zT (fun p => zSv (R, C, rk, sn, sk, cn, cd) P v p g) k ||| bif (fun p => zSv (R, C, rk, sn, sk, cn, cd) P v p g) k then _ else _) = _
            rw [show (fun p => zSv (R, C, rk, sn, sk, cn, cd) P v p g) k = true from b266]
            rfl
          have h9 := ih k270 hk270 (k + 1) _ (by omega) (zFr_trans hf f263)
          rw [et] at h9
          exact h9
  exact hl n 0 ph (Nat.zero_le _) zFr_refl
theorem zm_meet {ph : pm_H} {E : zEn} {P G A : Nat} {v : Nat → Nat} (hS : zSh ph) (hE : zMe ph E) (hN : zMp ph P G) (hA : A = 174 ∨ A = 175) (hv : zNr ph A 0 v) (hO : zOk E.1 E.2.1 P G v) {a b : Nat} (ha : a < P) (hb : b < P) : zM 231 [.ref 170, .ref A, .int (zn a), .int (zn b)] ph (fun v0 q => zSc ph q ∧ v0 = some (.int (zI (zMeet E P v a b)))) := by
  obtain ⟨Q, hQ⟩ : ∃ Q : Option Value → pm_H → Prop, Q = (fun v0 q => zSc ph q ∧ v0 = some (.int (zI (zMeet E P v a b)))) := ⟨_, rfl⟩
  rw [← hQ]
  refine zM_mk fun n D => ?_
  show zW n D 231 Q 0 [some (.ref 170), some (.ref A), some (.int (zn a)), some (.int (zn b))] [] ph
  have c_0 : (Int32.ofInt 0).toInt = 0 := by decide
  have c_1 : (Int32.ofInt 1).toInt = 1 := by decide
  obtain ⟨R, C, rk, sn, sk, cn, cd⟩ := E
  have hL0 : zMl ph R C rk := hE.1
  have hR0 : zMr ph sn sk cn cd := hE.2.1
  have hcg : zcg cn cd := hE.2.2
  have hE0 : zMe ph (R, C, rk, sn, sk, cn, cd) := hE
  have hO0 : zOk R C P G v := hO
  have hN0 := hN
  have hL := hL0
  have hR := hR0
  obtain ⟨gR, gC, gK, hR3, hR7, hC3, hC7⟩ := hL
  have hRC := zRC49 hR7 hC7
  have tR := znt (k := R) (by omega)
  have tC := znt (k := C) (by omega)
  obtain ⟨gP, hP8, gG, hG8⟩ := hN
  have tP := znt (k := P) (by omega)
  have tG := znt (k := G) (by omega)
  obtain ⟨gsn, hs1, hs20, gsk, gcn, hc40, gcd⟩ := hR
  have tsn := znt (k := sn) (by omega)
  have tcn := znt (k := cn) (by omega)
  have ta := znt (k := a) (by omega)
  have tb := znt (k := b) (by omega)
  refine w_load (pc' := 1) (v := .ref 170) (m := 1) (ykc_231 (e := (2, .aload_n kF0, 0)) rfl) rfl rfl ?_
  refine w_load (pc' := 2) (v := .ref A) (m := 1) (ykc_231 (e := (2, .aload_n kF1, 0)) rfl) rfl rfl ?_
  refine w_load (pc' := 3) (v := .int (zn a)) (m := 1) (ykc_231 (e := (2, .iload_n kF2, 0)) rfl) rfl rfl ?_
  refine w_load (pc' := 4) (v := .ref A) (m := 1) (ykc_231 (e := (2, .aload_n kF1, 0)) rfl) rfl rfl ?_
  refine w_load (pc' := 5) (v := .int (zn b)) (m := 1) (ykc_231 (e := (2, .iload_n kF3, 0)) rfl) rfl rfl ?_
  have q271 := hO0.1 b (by omega)
  have tq271 := znt (k := v b) (by omega)
  refine w_ialk (pc' := 6) (k := b) (ykc_231 (e := (5, .iaload, 0)) rfl) (zNr0 hv (i := b) (by omega)) (by omega) rfl ?_
  refine w_cv (as := [.ref 170, .ref A, .int (zn a), .int (zn (v b))]) (r := []) (ykc_231 (e := (6, .invokevirtual 308, 0)) rfl) rfl rfl rfl rfl (zm_does hS hE0 hN0 (⟨hA, hv⟩ : (A = 174 ∨ A = 175) ∧ zNr ph A 0 v).1 (⟨hA, hv⟩ : (A = 174 ∨ A = 175) ∧ zNr ph A 0 v).2 hO0 (p := a) (g := v b) (by omega) (show v b < R * C by omega)) (fun v273 ph274 hv => ?_)
  obtain ⟨f272, rfl⟩ := hv
  show zW n D 231 Q 9 [some (.ref 170), some (.ref A), some (.int (zn a)), some (.int (zn b))] [.int (zI (zSv (R, C, rk, sn, sk, cn, cd) P v a (v b)))] ph274
  refine w_beq (ykc_231 (e := (4, .ifCond .eq 19, 28)) rfl) rfl (fun b275 => ?_) (fun b275 => ?_)
  · refine w_alu (pc' := 29) (st' := [.int (Int32.ofInt 0)]) (ykc_231 (e := (0, .iconst 0, 0)) rfl) rfl rfl ?_
    refine w_ret (v := (some (.int (Int32.ofInt 0)))) (ykc_231 (e := (7, .ireturn, 0)) rfl) zr_z ?_
    rw [hQ, zi0]
    exact ⟨f272, zvB (by unfold zMeet; simp [b275])⟩
  · refine w_load (pc' := 13) (v := .ref 170) (m := 1) (ykc_231 (e := (2, .aload_n kF0, 0)) rfl) rfl rfl ?_
    refine w_load (pc' := 14) (v := .ref A) (m := 1) (ykc_231 (e := (2, .aload_n kF1, 0)) rfl) rfl rfl ?_
    refine w_load (pc' := 15) (v := .int (zn b)) (m := 1) (ykc_231 (e := (2, .iload_n kF3, 0)) rfl) rfl rfl ?_
    refine w_load (pc' := 16) (v := .ref A) (m := 1) (ykc_231 (e := (2, .aload_n kF1, 0)) rfl) rfl rfl ?_
    refine w_load (pc' := 17) (v := .int (zn a)) (m := 1) (ykc_231 (e := (2, .iload_n kF2, 0)) rfl) rfl rfl ?_
    have q276 := hO0.1 a (by omega)
    have tq276 := znt (k := v a) (by omega)
    refine w_ialk (pc' := 18) (k := a) (ykc_231 (e := (5, .iaload, 0)) rfl) ((f272.1 A a (by simp <;> omega) (by simp <;> omega)).trans (zNr0 hv (i := a) (by omega))) (by omega) rfl ?_
    refine w_cv (as := [.ref 170, .ref A, .int (zn b), .int (zn (v a))]) (r := []) (ykc_231 (e := (6, .invokevirtual 308, 0)) rfl) rfl rfl rfl rfl (zm_does (zSc_S f272 hS) (zSc_e f272 hE0) (zSc_p f272 hN0) (zSc_a f272 (⟨hA, hv⟩ : (A = 174 ∨ A = 175) ∧ zNr ph A 0 v)).1 (zSc_a f272 (⟨hA, hv⟩ : (A = 174 ∨ A = 175) ∧ zNr ph A 0 v)).2 hO0 (p := b) (g := v a) (by omega) (show v a < R * C by omega)) (fun v278 ph279 hv => ?_)
    obtain ⟨f277, rfl⟩ := hv
    show zW n D 231 Q 21 [some (.ref 170), some (.ref A), some (.int (zn a)), some (.int (zn b))] [.int (zI (zSv (R, C, rk, sn, sk, cn, cd) P v b (v a)))] ph279
    refine w_beq (ykc_231 (e := (4, .ifCond .eq 7, 28)) rfl) rfl (fun b280 => ?_) (fun b280 => ?_)
    · refine w_alu (pc' := 29) (st' := [.int (Int32.ofInt 0)]) (ykc_231 (e := (0, .iconst 0, 0)) rfl) rfl rfl ?_
      refine w_ret (v := (some (.int (Int32.ofInt 0)))) (ykc_231 (e := (7, .ireturn, 0)) rfl) zr_z ?_
      rw [hQ, zi0]
      exact ⟨(zFr_trans f272 f277), zvB (by unfold zMeet; simp [b275, b280])⟩
    · refine w_alu (pc' := 25) (st' := [.int (Int32.ofInt 1)]) (ykc_231 (e := (0, .iconst 1, 0)) rfl) rfl rfl ?_
      refine w_br (pc' := 29) (st' := [.int (Int32.ofInt 1)]) (ykc_231 (e := (4, .goto 4, 29)) rfl) rfl ?_
      refine w_ret (v := (some (.int (Int32.ofInt 1)))) (ykc_231 (e := (7, .ireturn, 0)) rfl) zr_z ?_
      rw [hQ, zi1]
      exact ⟨(zFr_trans f272 f277), zvB (by unfold zMeet; simp [b275, b280])⟩
end
section
/-! the reference: who tells whom, hours, by W; printed by wip/z/z_f_hour.py -/
theorem zm_tell {ph : pm_H} {E : zEn} {P G A : Nat} {v : Nat → Nat} (hS : zSh ph) (hE : zMe ph E) (hN : zMp ph P G) (hA : A = 174 ∨ A = 175) (hv : zNr ph A 0 v) (hO : zOk E.1 E.2.1 P G v) {a b : Nat} (ha : a < P) (hb : b < P) : zM 232 [.ref 170, .ref A, .int (zn a), .int (zn b)] ph (fun v0 q => zSc ph q ∧ v0 = some (.int (zI (zTell E P v a b)))) := by
  obtain ⟨Q, hQ⟩ : ∃ Q : Option Value → pm_H → Prop, Q = (fun v0 q => zSc ph q ∧ v0 = some (.int (zI (zTell E P v a b)))) := ⟨_, rfl⟩
  rw [← hQ]
  refine zM_mk fun n D => ?_
  show zW n D 232 Q 0 [some (.ref 170), some (.ref A), some (.int (zn a)), some (.int (zn b)), none] [] ph
  have c_0 : (Int32.ofInt 0).toInt = 0 := by decide
  have c_1 : (Int32.ofInt 1).toInt = 1 := by decide
  have c_2 : (Int32.ofInt 2).toInt = 2 := by decide
  obtain ⟨R, C, rk, sn, sk, cn, cd⟩ := E
  have hL0 : zMl ph R C rk := hE.1
  have hR0 : zMr ph sn sk cn cd := hE.2.1
  have hcg : zcg cn cd := hE.2.2
  have hE0 : zMe ph (R, C, rk, sn, sk, cn, cd) := hE
  have hO0 : zOk R C P G v := hO
  have hN0 := hN
  have hL := hL0
  have hR := hR0
  obtain ⟨gR, gC, gK, hR3, hR7, hC3, hC7⟩ := hL
  have hRC := zRC49 hR7 hC7
  have tR := znt (k := R) (by omega)
  have tC := znt (k := C) (by omega)
  obtain ⟨gP, hP8, gG, hG8⟩ := hN
  have tP := znt (k := P) (by omega)
  have tG := znt (k := G) (by omega)
  obtain ⟨gsn, hs1, hs20, gsk, gcn, hc40, gcd⟩ := hR
  have tsn := znt (k := sn) (by omega)
  have tcn := znt (k := cn) (by omega)
  have ta := znt (k := a) (by omega)
  have tb := znt (k := b) (by omega)
  refine w_load (pc' := 1) (v := .ref A) (m := 1) (ykc_232 (e := (2, .aload_n kF1, 0)) rfl) rfl rfl ?_
  refine w_load (pc' := 2) (v := .int (zn a)) (m := 1) (ykc_232 (e := (2, .iload_n kF2, 0)) rfl) rfl rfl ?_
  have q281 := hO0.1 a (by omega)
  have tq281 := znt (k := v a) (by omega)
  refine w_ialk (pc' := 3) (k := a) (ykc_232 (e := (5, .iaload, 0)) rfl) (zNr0 hv (i := a) (by omega)) (by omega) rfl ?_
  refine w_load (pc' := 4) (v := .ref 170) (m := 1) (ykc_232 (e := (2, .aload_n kF0, 0)) rfl) rfl rfl ?_
  refine w_gf (pc' := 7) (v := .int (zn C)) (ykc_232 (e := (5, .getfield 27, 0)) rfl) rfl gC rfl ?_
  refine w_idiv (pc' := 8) (ykc_232 (e := (0, .idiv, 0)) rfl) rfl (fun d283 => ?_)
  have m282 : v a / C < R := (Nat.div_lt_iff_lt_mul (by omega)).mpr (by omega)
  have zm282 := Nat.zero_le (v a / C)
  have e284 : (zn (v a)) / (zn C) = zn (v a / C) := zn_of (zdivN (by omega) (by omega) (by omega))
  have te284 := znt (k := v a / C) (by omega)
  rw [e284]
  show zW n D 232 Q 8 [some (.ref 170), some (.ref A), some (.int (zn a)), some (.int (zn b)), none] [.int (zn (v a / C))] ph
  refine w_load (pc' := 9) (v := .ref A) (m := 1) (ykc_232 (e := (2, .aload_n kF1, 0)) rfl) rfl rfl ?_
  refine w_load (pc' := 10) (v := .int (zn b)) (m := 1) (ykc_232 (e := (2, .iload_n kF3, 0)) rfl) rfl rfl ?_
  have q285 := hO0.1 b (by omega)
  have tq285 := znt (k := v b) (by omega)
  refine w_ialk (pc' := 11) (k := b) (ykc_232 (e := (5, .iaload, 0)) rfl) (zNr0 hv (i := b) (by omega)) (by omega) rfl ?_
  refine w_load (pc' := 12) (v := .ref 170) (m := 1) (ykc_232 (e := (2, .aload_n kF0, 0)) rfl) rfl rfl ?_
  refine w_gf (pc' := 15) (v := .int (zn C)) (ykc_232 (e := (5, .getfield 27, 0)) rfl) rfl gC rfl ?_
  refine w_idiv (pc' := 16) (ykc_232 (e := (0, .idiv, 0)) rfl) rfl (fun d287 => ?_)
  have m286 : v b / C < R := (Nat.div_lt_iff_lt_mul (by omega)).mpr (by omega)
  have zm286 := Nat.zero_le (v b / C)
  have e288 : (zn (v b)) / (zn C) = zn (v b / C) := zn_of (zdivN (by omega) (by omega) (by omega))
  have te288 := znt (k := v b / C) (by omega)
  rw [e288]
  show zW n D 232 Q 16 [some (.ref 170), some (.ref A), some (.int (zn a)), some (.int (zn b)), none] [.int (zn (v b / C)), .int (zn (v a / C))] ph
  obtain ⟨z289, e_z289, h_z289⟩ : ∃ zq : Int32, (zn (v a / C)) - (zn (v b / C)) = zq ∧ zq.toInt = ((v a / C : Nat) : Int) - ((v b / C : Nat) : Int) := ⟨_, rfl, (by have := ti_sub (x := (zn (v a / C))) (y := (zn (v b / C))) (by omega) (by omega); omega)⟩
  refine w_alu (pc' := 17) (st' := [.int z289]) (ykc_232 (e := (0, .isub, 0)) rfl) (by rw [← e_z289]; rfl) rfl ?_
  obtain ⟨z290, e_z290⟩ : ∃ zq : Int32, (if 0 ≤ z289 then z289 else 0 - z289) = zq := ⟨_, rfl⟩
  have h_z290 := zabsI e_z290
  refine w_mem1 (pc' := 20) (m := 3) (st' := [.int z290]) (ph' := ph) (ykc_232 (e := (5, .invokestatic 276, 0)) rfl) (by rw [← e_z290]; rfl) rfl ?_
  refine w_alu (pc' := 21) (st' := [.int (Int32.ofInt 2), .int z290]) (ykc_232 (e := (0, .iconst 2, 0)) rfl) rfl rfl ?_
  refine w_ige (ykc_232 (e := (4, .if_icmp .ge 31, 52)) rfl) rfl (fun b291 => ?_) (fun b291 => ?_)
  · refine w_alu (pc' := 53) (st' := [.int (Int32.ofInt 0)]) (ykc_232 (e := (0, .iconst 0, 0)) rfl) rfl rfl ?_
    refine w_store (pc' := 55) (L' := [some (.ref 170), some (.ref A), some (.int (zn a)), some (.int (zn b)), some (.int (Int32.ofInt 0))]) (st' := []) (m := 2) (ykc_232 (e := (3, .istore 4, 0)) rfl) rfl rfl ?_
    refine w_load (pc' := 57) (v := .int (Int32.ofInt 0)) (m := 2) (ykc_232 (e := (2, .iload 4, 0)) rfl) rfl rfl ?_
    refine w_zeq (ykc_232 (e := (4, .ifCond .eq 17, 74)) rfl) rfl (fun b292 => ?_) (fun q => by exfalso; omega)
    refine w_alu (pc' := 75) (st' := [.int (Int32.ofInt 0)]) (ykc_232 (e := (0, .iconst 0, 0)) rfl) rfl rfl ?_
    refine w_ret (v := (some (.int (Int32.ofInt 0)))) (ykc_232 (e := (7, .ireturn, 0)) rfl) zr_z ?_
    have nr : zNear C (v a) (v b) = false := decide_eq_false (by omega)
    rw [hQ, zi0]
    exact ⟨zFr_refl, zvB (by unfold zTell; simp [nr])⟩
  · refine w_load (pc' := 25) (v := .ref A) (m := 1) (ykc_232 (e := (2, .aload_n kF1, 0)) rfl) rfl rfl ?_
    refine w_load (pc' := 26) (v := .int (zn a)) (m := 1) (ykc_232 (e := (2, .iload_n kF2, 0)) rfl) rfl rfl ?_
    have q293 := hO0.1 a (by omega)
    have tq293 := znt (k := v a) (by omega)
    refine w_ialk (pc' := 27) (k := a) (ykc_232 (e := (5, .iaload, 0)) rfl) (zNr0 hv (i := a) (by omega)) (by omega) rfl ?_
    refine w_load (pc' := 28) (v := .ref 170) (m := 1) (ykc_232 (e := (2, .aload_n kF0, 0)) rfl) rfl rfl ?_
    refine w_gf (pc' := 31) (v := .int (zn C)) (ykc_232 (e := (5, .getfield 27, 0)) rfl) rfl gC rfl ?_
    refine w_irem (pc' := 32) (ykc_232 (e := (0, .irem, 0)) rfl) rfl (fun d295 => ?_)
    have m294 := Nat.mod_lt (v a) (show 0 < C by omega)
    have zm294 := Nat.zero_le (v a % C)
    have e296 : (zn (v a)) - (zn (v a)) / (zn C) * (zn C) = zn (v a % C) := zn_of (zremN (by omega) (by omega) (by omega))
    have te296 := znt (k := v a % C) (by omega)
    rw [e296]
    show zW n D 232 Q 32 [some (.ref 170), some (.ref A), some (.int (zn a)), some (.int (zn b)), none] [.int (zn (v a % C))] ph
    refine w_load (pc' := 33) (v := .ref A) (m := 1) (ykc_232 (e := (2, .aload_n kF1, 0)) rfl) rfl rfl ?_
    refine w_load (pc' := 34) (v := .int (zn b)) (m := 1) (ykc_232 (e := (2, .iload_n kF3, 0)) rfl) rfl rfl ?_
    have q297 := hO0.1 b (by omega)
    have tq297 := znt (k := v b) (by omega)
    refine w_ialk (pc' := 35) (k := b) (ykc_232 (e := (5, .iaload, 0)) rfl) (zNr0 hv (i := b) (by omega)) (by omega) rfl ?_
    refine w_load (pc' := 36) (v := .ref 170) (m := 1) (ykc_232 (e := (2, .aload_n kF0, 0)) rfl) rfl rfl ?_
    refine w_gf (pc' := 39) (v := .int (zn C)) (ykc_232 (e := (5, .getfield 27, 0)) rfl) rfl gC rfl ?_
    refine w_irem (pc' := 40) (ykc_232 (e := (0, .irem, 0)) rfl) rfl (fun d299 => ?_)
    have m298 := Nat.mod_lt (v b) (show 0 < C by omega)
    have zm298 := Nat.zero_le (v b % C)
    have e300 : (zn (v b)) - (zn (v b)) / (zn C) * (zn C) = zn (v b % C) := zn_of (zremN (by omega) (by omega) (by omega))
    have te300 := znt (k := v b % C) (by omega)
    rw [e300]
    show zW n D 232 Q 40 [some (.ref 170), some (.ref A), some (.int (zn a)), some (.int (zn b)), none] [.int (zn (v b % C)), .int (zn (v a % C))] ph
    obtain ⟨z301, e_z301, h_z301⟩ : ∃ zq : Int32, (zn (v a % C)) - (zn (v b % C)) = zq ∧ zq.toInt = ((v a % C : Nat) : Int) - ((v b % C : Nat) : Int) := ⟨_, rfl, (by have := ti_sub (x := (zn (v a % C))) (y := (zn (v b % C))) (by omega) (by omega); omega)⟩
    refine w_alu (pc' := 41) (st' := [.int z301]) (ykc_232 (e := (0, .isub, 0)) rfl) (by rw [← e_z301]; rfl) rfl ?_
    obtain ⟨z302, e_z302⟩ : ∃ zq : Int32, (if 0 ≤ z301 then z301 else 0 - z301) = zq := ⟨_, rfl⟩
    have h_z302 := zabsI e_z302
    refine w_mem1 (pc' := 44) (m := 3) (st' := [.int z302]) (ph' := ph) (ykc_232 (e := (5, .invokestatic 276, 0)) rfl) (by rw [← e_z302]; rfl) rfl ?_
    refine w_alu (pc' := 45) (st' := [.int (Int32.ofInt 2), .int z302]) (ykc_232 (e := (0, .iconst 2, 0)) rfl) rfl rfl ?_
    refine w_ige (ykc_232 (e := (4, .if_icmp .ge 7, 52)) rfl) rfl (fun b303 => ?_) (fun b303 => ?_)
    · refine w_alu (pc' := 53) (st' := [.int (Int32.ofInt 0)]) (ykc_232 (e := (0, .iconst 0, 0)) rfl) rfl rfl ?_
      refine w_store (pc' := 55) (L' := [some (.ref 170), some (.ref A), some (.int (zn a)), some (.int (zn b)), some (.int (Int32.ofInt 0))]) (st' := []) (m := 2) (ykc_232 (e := (3, .istore 4, 0)) rfl) rfl rfl ?_
      refine w_load (pc' := 57) (v := .int (Int32.ofInt 0)) (m := 2) (ykc_232 (e := (2, .iload 4, 0)) rfl) rfl rfl ?_
      refine w_zeq (ykc_232 (e := (4, .ifCond .eq 17, 74)) rfl) rfl (fun b304 => ?_) (fun q => by exfalso; omega)
      refine w_alu (pc' := 75) (st' := [.int (Int32.ofInt 0)]) (ykc_232 (e := (0, .iconst 0, 0)) rfl) rfl rfl ?_
      refine w_ret (v := (some (.int (Int32.ofInt 0)))) (ykc_232 (e := (7, .ireturn, 0)) rfl) zr_z ?_
      have nr : zNear C (v a) (v b) = false := decide_eq_false (by omega)
      rw [hQ, zi0]
      exact ⟨zFr_refl, zvB (by unfold zTell; simp [nr])⟩
    · refine w_alu (pc' := 49) (st' := [.int (Int32.ofInt 1)]) (ykc_232 (e := (0, .iconst 1, 0)) rfl) rfl rfl ?_
      refine w_br (pc' := 53) (st' := [.int (Int32.ofInt 1)]) (ykc_232 (e := (4, .goto 4, 53)) rfl) rfl ?_
      refine w_store (pc' := 55) (L' := [some (.ref 170), some (.ref A), some (.int (zn a)), some (.int (zn b)), some (.int (Int32.ofInt 1))]) (st' := []) (m := 2) (ykc_232 (e := (3, .istore 4, 0)) rfl) rfl rfl ?_
      refine w_load (pc' := 57) (v := .int (Int32.ofInt 1)) (m := 2) (ykc_232 (e := (2, .iload 4, 0)) rfl) rfl rfl ?_
      refine w_zeq (ykc_232 (e := (4, .ifCond .eq 17, 74)) rfl) rfl (fun q => by exfalso; omega) (fun b305 => ?_)
      refine w_load (pc' := 61) (v := .ref 170) (m := 1) (ykc_232 (e := (2, .aload_n kF0, 0)) rfl) rfl rfl ?_
      refine w_load (pc' := 62) (v := .ref A) (m := 1) (ykc_232 (e := (2, .aload_n kF1, 0)) rfl) rfl rfl ?_
      refine w_load (pc' := 63) (v := .int (zn a)) (m := 1) (ykc_232 (e := (2, .iload_n kF2, 0)) rfl) rfl rfl ?_
      refine w_load (pc' := 64) (v := .int (zn b)) (m := 1) (ykc_232 (e := (2, .iload_n kF3, 0)) rfl) rfl rfl ?_
      refine w_cv (as := [.ref 170, .ref A, .int (zn a), .int (zn b)]) (r := []) (ykc_232 (e := (6, .invokevirtual 312, 0)) rfl) rfl rfl rfl rfl (zm_meet hS hE0 hN0 (⟨hA, hv⟩ : (A = 174 ∨ A = 175) ∧ zNr ph A 0 v).1 (⟨hA, hv⟩ : (A = 174 ∨ A = 175) ∧ zNr ph A 0 v).2 hO0 (a := a) (b := b) (by omega) (by omega)) (fun v307 ph308 hv => ?_)
      obtain ⟨f306, rfl⟩ := hv
      show zW n D 232 Q 67 [some (.ref 170), some (.ref A), some (.int (zn a)), some (.int (zn b)), some (.int (Int32.ofInt 1))] [.int (zI (zMeet (R, C, rk, sn, sk, cn, cd) P v a b))] ph308
      refine w_beq (ykc_232 (e := (4, .ifCond .eq 7, 74)) rfl) rfl (fun b309 => ?_) (fun b309 => ?_)
      · refine w_alu (pc' := 75) (st' := [.int (Int32.ofInt 0)]) (ykc_232 (e := (0, .iconst 0, 0)) rfl) rfl rfl ?_
        refine w_ret (v := (some (.int (Int32.ofInt 0)))) (ykc_232 (e := (7, .ireturn, 0)) rfl) zr_z ?_
        have nr : zNear C (v a) (v b) = true := decide_eq_true (by omega)
        rw [hQ, zi0]
        exact ⟨f306, zvB (by unfold zTell; simp [nr, b309])⟩
      · refine w_alu (pc' := 71) (st' := [.int (Int32.ofInt 1)]) (ykc_232 (e := (0, .iconst 1, 0)) rfl) rfl rfl ?_
        refine w_br (pc' := 75) (st' := [.int (Int32.ofInt 1)]) (ykc_232 (e := (4, .goto 4, 75)) rfl) rfl ?_
        refine w_ret (v := (some (.int (Int32.ofInt 1)))) (ykc_232 (e := (7, .ireturn, 0)) rfl) zr_z ?_
        have nr : zNear C (v a) (v b) = true := decide_eq_true (by omega)
        rw [hQ, zi1]
        exact ⟨f306, zvB (by unfold zTell; simp [nr, b309])⟩
theorem zm_knowing {ph : pm_H} {E : zEn} {P G A : Nat} {v : Nat → Nat} (hS : zSh ph) (hE : zMe ph E) (hN : zMp ph P G) (hA : A = 174 ∨ A = 175) (hv : zNr ph A 0 v) (hO : zOk E.1 E.2.1 P G v) {t : Nat} (ht : t < 64) : zM 233 [.ref 170, .ref A, .int (zn t)] ph (fun v0 q => ph = q ∧ v0 = some (.int (zT (fun p => zb (zn (v (24 + p))).toInt64 t) P))) := by
  obtain ⟨Q, hQ⟩ : ∃ Q : Option Value → pm_H → Prop, Q = (fun v0 q => ph = q ∧ v0 = some (.int (zT (fun p => zb (zn (v (24 + p))).toInt64 t) P))) := ⟨_, rfl⟩
  rw [← hQ]
  refine zM_mk fun n D => ?_
  show zW n D 233 Q 0 [some (.ref 170), some (.ref A), some (.int (zn t)), none, none] [] ph
  have c_0 : ((Int8.ofInt 24).toInt32).toInt = 24 := by decide
  have c_1 : (Int32.ofInt 0).toInt = 0 := by decide
  have c_2 : (Int32.ofInt 1).toInt = 1 := by decide
  obtain ⟨R, C, rk, sn, sk, cn, cd⟩ := E
  have hL0 : zMl ph R C rk := hE.1
  have hR0 : zMr ph sn sk cn cd := hE.2.1
  have hcg : zcg cn cd := hE.2.2
  have hE0 : zMe ph (R, C, rk, sn, sk, cn, cd) := hE
  have hO0 : zOk R C P G v := hO
  have hN0 := hN
  have hL := hL0
  have hR := hR0
  obtain ⟨gR, gC, gK, hR3, hR7, hC3, hC7⟩ := hL
  have hRC := zRC49 hR7 hC7
  have tR := znt (k := R) (by omega)
  have tC := znt (k := C) (by omega)
  obtain ⟨gP, hP8, gG, hG8⟩ := hN
  have tP := znt (k := P) (by omega)
  have tG := znt (k := G) (by omega)
  obtain ⟨gsn, hs1, hs20, gsk, gcn, hc40, gcd⟩ := hR
  have tsn := znt (k := sn) (by omega)
  have tcn := znt (k := cn) (by omega)
  have tt := znt (k := t) (by omega)
  refine w_alu (pc' := 1) (st' := [.int (Int32.ofInt 0)]) (ykc_233 (e := (0, .iconst 0, 0)) rfl) rfl rfl ?_
  refine w_store (pc' := 2) (L' := [some (.ref 170), some (.ref A), some (.int (zn t)), some (.int (Int32.ofInt 0)), none]) (st' := []) (m := 1) (ykc_233 (e := (3, .istore_n kF3, 0)) rfl) rfl rfl ?_
  refine w_alu (pc' := 3) (st' := [.int (Int32.ofInt 0)]) (ykc_233 (e := (0, .iconst 0, 0)) rfl) rfl rfl ?_
  refine w_store (pc' := 5) (L' := [some (.ref 170), some (.ref A), some (.int (zn t)), some (.int (Int32.ofInt 0)), some (.int (Int32.ofInt 0))]) (st' := []) (m := 2) (ykc_233 (e := (3, .istore 4, 0)) rfl) rfl rfl ?_
  have hl : ∀ (n : Nat), ∀ (k : Nat), (k ≤ P) → zW n D 233 Q 5 [some (.ref 170), some (.ref A), some (.int (zn t)), some (.int (zT (fun p => zb (zn (v (24 + p))).toInt64 t) k)), some (.int (zn k))] [] ph := by
    intro n
    induction n using Nat.strongRecOn with
    | ind n ih =>
      intro k hk
      have tk := znt (k := k) (by omega)
      refine w_load (pc' := 7) (v := .int (zn k)) (m := 2) (ykc_233 (e := (2, .iload 4, 0)) rfl) rfl rfl ?_
      refine w_load (pc' := 8) (v := .ref 170) (m := 1) (ykc_233 (e := (2, .aload_n kF0, 0)) rfl) rfl rfl ?_
      refine w_gf (pc' := 11) (v := .int (zn P)) (ykc_233 (e := (5, .getfield 130, 0)) rfl) rfl gP rfl ?_
      refine w_ige (ykc_233 (e := (4, .if_icmp .ge 35, 46)) rfl) rfl (fun b310 => ?_) (fun b310 => ?_)
      · refine w_load (pc' := 47) (v := .int (zT (fun p => zb (zn (v (24 + p))).toInt64 t) k)) (m := 1) (ykc_233 (e := (2, .iload_n kF3, 0)) rfl) rfl rfl ?_
        refine w_ret (v := (some (.int (zT (fun p => zb (zn (v (24 + p))).toInt64 t) k)))) (ykc_233 (e := (7, .ireturn, 0)) rfl) (zr_v rfl) ?_
        have ek : P = k := by omega
        subst ek
        rw [hQ]
        exact ⟨rfl, rfl⟩
      · refine w_load (pc' := 15) (v := .int (zT (fun p => zb (zn (v (24 + p))).toInt64 t) k)) (m := 1) (ykc_233 (e := (2, .iload_n kF3, 0)) rfl) rfl rfl ?_
        refine w_load (pc' := 16) (v := .ref A) (m := 1) (ykc_233 (e := (2, .aload_n kF1, 0)) rfl) rfl rfl ?_
        refine w_push (pc' := 18) (v := .int ((Int8.ofInt 24).toInt32)) (m := 2) (ykc_233 (e := (1, .bipush 24, 0)) rfl) rfl rfl ?_
        refine w_load (pc' := 20) (v := .int (zn k)) (m := 2) (ykc_233 (e := (2, .iload 4, 0)) rfl) rfl rfl ?_
        have e311 : ((Int8.ofInt 24).toInt32) + (zn k) = zn (24 + k) := (zaddN (a := 24) (b := k) c_0 (znt (by omega)) (by omega)) 
        have te311 := znt (k := 24 + k) (by omega)
        refine w_alu (pc' := 21) (st' := [.int (zn (24 + k)), .ref A, .int (zT (fun p => zb (zn (v (24 + p))).toInt64 t) k)]) (ykc_233 (e := (0, .iadd, 0)) rfl) (by rw [← e311]; rfl) rfl ?_
        have q312 := hO0.1 k (by omega)
        have tq312 := znt (k := v (24 + k)) (by omega)
        refine w_ialk (pc' := 22) (k := 24 + k) (ykc_233 (e := (5, .iaload, 0)) rfl) (zNr0 hv (i := 24 + k) (by omega)) (by omega) rfl ?_
        refine w_alu (pc' := 23) (st' := [.long ((zn (v (24 + k))).toInt64), .int (zT (fun p => zb (zn (v (24 + p))).toInt64 t) k)]) (ykc_233 (e := (0, .i2l, 0)) rfl) rfl rfl ?_
        refine w_load (pc' := 24) (v := .int (zn t)) (m := 1) (ykc_233 (e := (2, .iload_n kF2, 0)) rfl) rfl rfl ?_
        refine w_cs (as := [.long ((zn (v (24 + k))).toInt64), .int (zn t)]) (r := [.int (zT (fun p => zb (zn (v (24 + p))).toInt64 t) k)]) (ykc_233 (e := (6, .invokestatic 304, 0)) rfl) rfl rfl rfl rfl (zm_has (kn := t) (by omega) (by omega)) (fun v313 ph314 hv => ?_)
        obtain ⟨rfl, rfl⟩ := hv
        show zW n D 233 Q 27 [some (.ref 170), some (.ref A), some (.int (zn t)), some (.int (zT (fun p => zb (zn (v (24 + p))).toInt64 t) k)), some (.int (zn k))] [.int (zI (zb ((zn (v (24 + k))).toInt64) t)), .int (zT (fun p => zb (zn (v (24 + p))).toInt64 t) k)] ph
        refine w_beq (ykc_233 (e := (4, .ifCond .eq 10, 37)) rfl) rfl (fun b315 => ?_) (fun b315 => ?_)
        · refine w_alu (pc' := 38) (st' := [.int (Int32.ofInt 0), .int (zT (fun p => zb (zn (v (24 + p))).toInt64 t) k)]) (ykc_233 (e := (0, .iconst 0, 0)) rfl) rfl rfl ?_
          refine w_alu (pc' := 39) (st' := [.int ((zT (fun p => zb (zn (v (24 + p))).toInt64 t) k) ||| (Int32.ofInt 0))]) (ykc_233 (e := (0, .ior, 0)) rfl) rfl rfl ?_
          refine w_store (pc' := 40) (L' := [some (.ref 170), some (.ref A), some (.int (zn t)), some (.int ((zT (fun p => zb (zn (v (24 + p))).toInt64 t) k) ||| (Int32.ofInt 0))), some (.int (zn k))]) (st' := []) (m := 1) (ykc_233 (e := (3, .istore_n kF3, 0)) rfl) rfl rfl ?_
          have e316 : (zn k) + Int32.ofInt 1 = zn (k + 1) := (zaddN (a := k) (b := 1) (znt (by omega)) c_2 (by omega))
          have te316 := znt (k := k + 1) (by omega)
          refine w_store (pc' := 43) (L' := [some (.ref 170), some (.ref A), some (.int (zn t)), some (.int ((zT (fun p => zb (zn (v (24 + p))).toInt64 t) k) ||| (Int32.ofInt 0))), some (.int (zn (k + 1)))]) (st' := []) (m := 3) (ykc_233 (e := (3, .iinc 4 1, 0)) rfl) (by rw [← e316]; rfl) rfl ?_
          refine w_gb (ykc_233 (e := (4, .goto (-38), 5)) rfl) (fun k317 hk317 => ?_)
          have et : zT (fun p => zb (zn (v (24 + p))).toInt64 t) (k + 1) = (zT (fun p => zb (zn (v (24 + p))).toInt64 t) k) ||| (Int32.ofInt 0) := by
            show (zT (fun p => zb (zn (v (24 + p))).toInt64 t) k ||| bif (fun p => zb (zn (v (24 + p))).toInt64 t) k then _ else _) = _
            rw [show (fun p => zb (zn (v (24 + p))).toInt64 t) k = false from b315]
            rfl
          have h9 := ih k317 hk317 (k + 1) (by omega)
          rw [et] at h9
          exact h9
        · refine w_alu (pc' := 31) (st' := [.int (Int32.ofInt 1), .int (zT (fun p => zb (zn (v (24 + p))).toInt64 t) k)]) (ykc_233 (e := (0, .iconst 1, 0)) rfl) rfl rfl ?_
          refine w_load (pc' := 33) (v := .int (zn k)) (m := 2) (ykc_233 (e := (2, .iload 4, 0)) rfl) rfl rfl ?_
          refine w_alu (pc' := 34) (st' := [.int ((Int32.ofInt 1) <<< ((zn k) &&& 31)), .int (zT (fun p => zb (zn (v (24 + p))).toInt64 t) k)]) (ykc_233 (e := (0, .ishl, 0)) rfl) rfl rfl ?_
          refine w_br (pc' := 38) (st' := [.int ((Int32.ofInt 1) <<< ((zn k) &&& 31)), .int (zT (fun p => zb (zn (v (24 + p))).toInt64 t) k)]) (ykc_233 (e := (4, .goto 4, 38)) rfl) rfl ?_
          refine w_alu (pc' := 39) (st' := [.int ((zT (fun p => zb (zn (v (24 + p))).toInt64 t) k) ||| ((Int32.ofInt 1) <<< ((zn k) &&& 31)))]) (ykc_233 (e := (0, .ior, 0)) rfl) rfl rfl ?_
          refine w_store (pc' := 40) (L' := [some (.ref 170), some (.ref A), some (.int (zn t)), some (.int ((zT (fun p => zb (zn (v (24 + p))).toInt64 t) k) ||| ((Int32.ofInt 1) <<< ((zn k) &&& 31)))), some (.int (zn k))]) (st' := []) (m := 1) (ykc_233 (e := (3, .istore_n kF3, 0)) rfl) rfl rfl ?_
          have e318 : (zn k) + Int32.ofInt 1 = zn (k + 1) := (zaddN (a := k) (b := 1) (znt (by omega)) c_2 (by omega))
          have te318 := znt (k := k + 1) (by omega)
          refine w_store (pc' := 43) (L' := [some (.ref 170), some (.ref A), some (.int (zn t)), some (.int ((zT (fun p => zb (zn (v (24 + p))).toInt64 t) k) ||| ((Int32.ofInt 1) <<< ((zn k) &&& 31)))), some (.int (zn (k + 1)))]) (st' := []) (m := 3) (ykc_233 (e := (3, .iinc 4 1, 0)) rfl) (by rw [← e318]; rfl) rfl ?_
          refine w_gb (ykc_233 (e := (4, .goto (-38), 5)) rfl) (fun k319 hk319 => ?_)
          have et : zT (fun p => zb (zn (v (24 + p))).toInt64 t) (k + 1) = (zT (fun p => zb (zn (v (24 + p))).toInt64 t) k) ||| ((Int32.ofInt 1) <<< ((zn k) &&& 31)) := by
            show (zT (fun p => zb (zn (v (24 + p))).toInt64 t) k ||| bif (fun p => zb (zn (v (24 + p))).toInt64 t) k then _ else _) = _
            rw [show (fun p => zb (zn (v (24 + p))).toInt64 t) k = true from b315]
            rfl
          have h9 := ih k319 hk319 (k + 1) (by omega)
          rw [et] at h9
          exact h9
  exact hl n 0 (Nat.zero_le _)
/-- how much all KNOW together -/
def zKw (v : Nat → Nat) : Nat → Int32
  | 0 => Int32.ofInt 0
  | p + 1 => zKw v p + zpc (zn (v (24 + p)))
theorem zm_known {ph : pm_H} {E : zEn} {P G A : Nat} {v : Nat → Nat} (hS : zSh ph) (hE : zMe ph E) (hN : zMp ph P G) (hA : A = 174 ∨ A = 175) (hv : zNr ph A 0 v) (hO : zOk E.1 E.2.1 P G v) : zM 234 [.ref 170, .ref A] ph (fun v0 q => ph = q ∧ v0 = some (.int (zKw v P))) := by
  obtain ⟨Q, hQ⟩ : ∃ Q : Option Value → pm_H → Prop, Q = (fun v0 q => ph = q ∧ v0 = some (.int (zKw v P))) := ⟨_, rfl⟩
  rw [← hQ]
  refine zM_mk fun n D => ?_
  show zW n D 234 Q 0 [some (.ref 170), some (.ref A), none, none] [] ph
  have c_0 : ((Int8.ofInt 24).toInt32).toInt = 24 := by decide
  have c_1 : (Int32.ofInt 0).toInt = 0 := by decide
  have c_2 : (Int32.ofInt 1).toInt = 1 := by decide
  obtain ⟨R, C, rk, sn, sk, cn, cd⟩ := E
  have hL0 : zMl ph R C rk := hE.1
  have hR0 : zMr ph sn sk cn cd := hE.2.1
  have hcg : zcg cn cd := hE.2.2
  have hE0 : zMe ph (R, C, rk, sn, sk, cn, cd) := hE
  have hO0 : zOk R C P G v := hO
  have hN0 := hN
  have hL := hL0
  have hR := hR0
  obtain ⟨gR, gC, gK, hR3, hR7, hC3, hC7⟩ := hL
  have hRC := zRC49 hR7 hC7
  have tR := znt (k := R) (by omega)
  have tC := znt (k := C) (by omega)
  obtain ⟨gP, hP8, gG, hG8⟩ := hN
  have tP := znt (k := P) (by omega)
  have tG := znt (k := G) (by omega)
  obtain ⟨gsn, hs1, hs20, gsk, gcn, hc40, gcd⟩ := hR
  have tsn := znt (k := sn) (by omega)
  have tcn := znt (k := cn) (by omega)
  refine w_alu (pc' := 1) (st' := [.int (Int32.ofInt 0)]) (ykc_234 (e := (0, .iconst 0, 0)) rfl) rfl rfl ?_
  refine w_store (pc' := 2) (L' := [some (.ref 170), some (.ref A), some (.int (Int32.ofInt 0)), none]) (st' := []) (m := 1) (ykc_234 (e := (3, .istore_n kF2, 0)) rfl) rfl rfl ?_
  refine w_alu (pc' := 3) (st' := [.int (Int32.ofInt 0)]) (ykc_234 (e := (0, .iconst 0, 0)) rfl) rfl rfl ?_
  refine w_store (pc' := 4) (L' := [some (.ref 170), some (.ref A), some (.int (Int32.ofInt 0)), some (.int (Int32.ofInt 0))]) (st' := []) (m := 1) (ykc_234 (e := (3, .istore_n kF3, 0)) rfl) rfl rfl ?_
  have hl : ∀ (n : Nat), ∀ (k : Nat), (k ≤ P) → zW n D 234 Q 4 [some (.ref 170), some (.ref A), some (.int (zKw v k)), some (.int (zn k))] [] ph := by
    intro n
    induction n using Nat.strongRecOn with
    | ind n ih =>
      intro k hk
      have tk := znt (k := k) (by omega)
      refine w_load (pc' := 5) (v := .int (zn k)) (m := 1) (ykc_234 (e := (2, .iload_n kF3, 0)) rfl) rfl rfl ?_
      refine w_load (pc' := 6) (v := .ref 170) (m := 1) (ykc_234 (e := (2, .aload_n kF0, 0)) rfl) rfl rfl ?_
      refine w_gf (pc' := 9) (v := .int (zn P)) (ykc_234 (e := (5, .getfield 130, 0)) rfl) rfl gP rfl ?_
      refine w_ige (ykc_234 (e := (4, .if_icmp .ge 21, 30)) rfl) rfl (fun b320 => ?_) (fun b320 => ?_)
      · refine w_load (pc' := 31) (v := .int (zKw v k)) (m := 1) (ykc_234 (e := (2, .iload_n kF2, 0)) rfl) rfl rfl ?_
        refine w_ret (v := (some (.int (zKw v k)))) (ykc_234 (e := (7, .ireturn, 0)) rfl) (zr_v rfl) ?_
        have ek : P = k := by omega
        subst ek
        rw [hQ]
        exact ⟨rfl, rfl⟩
      · refine w_load (pc' := 13) (v := .int (zKw v k)) (m := 1) (ykc_234 (e := (2, .iload_n kF2, 0)) rfl) rfl rfl ?_
        refine w_load (pc' := 14) (v := .ref A) (m := 1) (ykc_234 (e := (2, .aload_n kF1, 0)) rfl) rfl rfl ?_
        refine w_push (pc' := 16) (v := .int ((Int8.ofInt 24).toInt32)) (m := 2) (ykc_234 (e := (1, .bipush 24, 0)) rfl) rfl rfl ?_
        refine w_load (pc' := 17) (v := .int (zn k)) (m := 1) (ykc_234 (e := (2, .iload_n kF3, 0)) rfl) rfl rfl ?_
        have e321 : ((Int8.ofInt 24).toInt32) + (zn k) = zn (24 + k) := (zaddN (a := 24) (b := k) c_0 (znt (by omega)) (by omega)) 
        have te321 := znt (k := 24 + k) (by omega)
        refine w_alu (pc' := 18) (st' := [.int (zn (24 + k)), .ref A, .int (zKw v k)]) (ykc_234 (e := (0, .iadd, 0)) rfl) (by rw [← e321]; rfl) rfl ?_
        have q322 := hO0.1 k (by omega)
        have tq322 := znt (k := v (24 + k)) (by omega)
        refine w_ialk (pc' := 19) (k := 24 + k) (ykc_234 (e := (5, .iaload, 0)) rfl) (zNr0 hv (i := 24 + k) (by omega)) (by omega) rfl ?_
        refine w_cs (as := [.int (zn (v (24 + k)))]) (r := [.int (zKw v k)]) (ykc_234 (e := (6, .invokestatic 265, 0)) rfl) rfl rfl rfl rfl (zj_pc) (fun v323 ph324 hv => ?_)
        obtain ⟨rfl, rfl⟩ := hv
        show zW n D 234 Q 22 [some (.ref 170), some (.ref A), some (.int (zKw v k)), some (.int (zn k))] [.int (zpc (zn (v (24 + k)))), .int (zKw v k)] ph
        refine w_alu (pc' := 23) (st' := [.int ((zKw v k) + (zpc (zn (v (24 + k)))))]) (ykc_234 (e := (0, .iadd, 0)) rfl) rfl rfl ?_
        refine w_store (pc' := 24) (L' := [some (.ref 170), some (.ref A), some (.int ((zKw v k) + (zpc (zn (v (24 + k)))))), some (.int (zn k))]) (st' := []) (m := 1) (ykc_234 (e := (3, .istore_n kF2, 0)) rfl) rfl rfl ?_
        have e325 : (zn k) + Int32.ofInt 1 = zn (k + 1) := (zaddN (a := k) (b := 1) (znt (by omega)) c_2 (by omega))
        have te325 := znt (k := k + 1) (by omega)
        refine w_store (pc' := 27) (L' := [some (.ref 170), some (.ref A), some (.int ((zKw v k) + (zpc (zn (v (24 + k)))))), some (.int (zn (k + 1)))]) (st' := []) (m := 3) (ykc_234 (e := (3, .iinc 3 1, 0)) rfl) (by rw [← e325]; rfl) rfl ?_
        refine w_gb (ykc_234 (e := (4, .goto (-23), 4)) rfl) (fun k326 hk326 => ?_)
        exact ih k326 hk326 (k + 1) (by omega)
  exact hl n 0 (Nat.zero_le _)
theorem zm_free {ph : pm_H} {R C : Nat} {rk : Nat → Bool} (hS : zSh ph) (hL : zMl ph R C rk) : zM 259 [.ref 170] ph (fun v0 q => ph = q ∧ v0 = some (.long (zFree rk (R * C)))) := by
  obtain ⟨Q, hQ⟩ : ∃ Q : Option Value → pm_H → Prop, Q = (fun v0 q => ph = q ∧ v0 = some (.long (zFree rk (R * C)))) := ⟨_, rfl⟩
  rw [← hQ]
  refine zM_mk fun n D => ?_
  show zW n D 259 Q 0 [some (.ref 170), none, none, none] [] ph
  have c_0 : (Int32.ofInt 0).toInt = 0 := by decide
  have c_1 : (Int32.ofInt 1).toInt = 1 := by decide
  have hL0 := hL
  obtain ⟨gR, gC, gK, hR3, hR7, hC3, hC7⟩ := hL
  have hRC := zRC49 hR7 hC7
  have tR := znt (k := R) (by omega)
  have tC := znt (k := C) (by omega)
  refine w_alu (pc' := 1) (st' := [.long (Int64.ofNat kG0)]) (ykc_259 (e := (0, .lconst kG0, 0)) rfl) rfl rfl ?_
  refine w_store (pc' := 2) (L' := [some (.ref 170), some (.long (Int64.ofNat kG0)), none, none]) (st' := []) (m := 1) (ykc_259 (e := (3, .lstore_n kF1, 0)) rfl) rfl rfl ?_
  refine w_alu (pc' := 3) (st' := [.int (Int32.ofInt 0)]) (ykc_259 (e := (0, .iconst 0, 0)) rfl) rfl rfl ?_
  refine w_store (pc' := 4) (L' := [some (.ref 170), some (.long (Int64.ofNat kG0)), none, some (.int (Int32.ofInt 0))]) (st' := []) (m := 1) (ykc_259 (e := (3, .istore_n kF3, 0)) rfl) rfl rfl ?_
  have hl : ∀ (n : Nat), ∀ (k : Nat), (k ≤ R * C) → zW n D 259 Q 4 [some (.ref 170), some (.long (zS (fun f => !rk f) k)), none, some (.int (zn k))] [] ph := by
    intro n
    induction n using Nat.strongRecOn with
    | ind n ih =>
      intro k hk
      have tk := znt (k := k) (by omega)
      refine w_load (pc' := 5) (v := .int (zn k)) (m := 1) (ykc_259 (e := (2, .iload_n kF3, 0)) rfl) rfl rfl ?_
      refine w_load (pc' := 6) (v := .ref 170) (m := 1) (ykc_259 (e := (2, .aload_n kF0, 0)) rfl) rfl rfl ?_
      refine w_cv (as := [.ref 170]) (r := [.int (zn k)]) (ykc_259 (e := (6, .invokevirtual 122, 0)) rfl) rfl rfl rfl rfl (zm_fields hS hL0) (fun v327 ph328 hv => ?_)
      obtain ⟨rfl, rfl⟩ := hv
      have tRC := znt (k := R * C) (by omega)
      show zW n D 259 Q 9 [some (.ref 170), some (.long (zS (fun f => !rk f) k)), none, some (.int (zn k))] [.int (zn (R * C)), .int (zn k)] ph
      refine w_ige (ykc_259 (e := (4, .if_icmp .ge 28, 37)) rfl) rfl (fun b329 => ?_) (fun b329 => ?_)
      · refine w_load (pc' := 38) (v := .long (zS (fun f => !rk f) k)) (m := 1) (ykc_259 (e := (2, .lload_n kF1, 0)) rfl) rfl rfl ?_
        refine w_ret (v := (some (.long (zS (fun f => !rk f) k)))) (ykc_259 (e := (7, .lreturn, 0)) rfl) (zr_v rfl) ?_
        have ek : k = R * C := by omega
        rw [hQ, ek]
        exact ⟨rfl, rfl⟩
      · refine w_load (pc' := 13) (v := .long (zS (fun f => !rk f) k)) (m := 1) (ykc_259 (e := (2, .lload_n kF1, 0)) rfl) rfl rfl ?_
        refine w_load (pc' := 14) (v := .ref 170) (m := 1) (ykc_259 (e := (2, .aload_n kF0, 0)) rfl) rfl rfl ?_
        refine w_gf (pc' := 17) (v := .ref 172) (ykc_259 (e := (5, .getfield 33, 0)) rfl) rfl (zsg hS zs_170_9) rfl ?_
        refine w_load (pc' := 18) (v := .int (zn k)) (m := 1) (ykc_259 (e := (2, .iload_n kF3, 0)) rfl) rfl rfl ?_
        refine w_balk (pc' := 19) (k := k) (ykc_259 (e := (5, .baload, 0)) rfl) (gK k (by omega)) (by omega) rfl ?_
        refine w_beq (ykc_259 (e := (4, .ifCond .eq 7, 26)) rfl) rfl (fun b330 => ?_) (fun b330 => ?_)
        · refine w_alu (pc' := 27) (st' := [.long (Int64.ofNat kG1), .long (zS (fun f => !rk f) k)]) (ykc_259 (e := (0, .lconst kG1, 0)) rfl) rfl rfl ?_
          refine w_load (pc' := 28) (v := .int (zn k)) (m := 1) (ykc_259 (e := (2, .iload_n kF3, 0)) rfl) rfl rfl ?_
          refine w_alu (pc' := 29) (st' := [.long ((Int64.ofNat kG1) <<< ((zn k).toInt64 &&& 63)), .long (zS (fun f => !rk f) k)]) (ykc_259 (e := (0, .lshl, 0)) rfl) rfl rfl ?_
          refine w_alu (pc' := 30) (st' := [.long ((zS (fun f => !rk f) k) ||| ((Int64.ofNat kG1) <<< ((zn k).toInt64 &&& 63)))]) (ykc_259 (e := (0, .lor, 0)) rfl) rfl rfl ?_
          refine w_store (pc' := 31) (L' := [some (.ref 170), some (.long ((zS (fun f => !rk f) k) ||| ((Int64.ofNat kG1) <<< ((zn k).toInt64 &&& 63)))), none, some (.int (zn k))]) (st' := []) (m := 1) (ykc_259 (e := (3, .lstore_n kF1, 0)) rfl) rfl rfl ?_
          have e331 : (zn k) + Int32.ofInt 1 = zn (k + 1) := (zaddN (a := k) (b := 1) (znt (by omega)) c_1 (by omega))
          have te331 := znt (k := k + 1) (by omega)
          refine w_store (pc' := 34) (L' := [some (.ref 170), some (.long ((zS (fun f => !rk f) k) ||| ((Int64.ofNat kG1) <<< ((zn k).toInt64 &&& 63)))), none, some (.int (zn (k + 1)))]) (st' := []) (m := 3) (ykc_259 (e := (3, .iinc 3 1, 0)) rfl) (by rw [← e331]; rfl) rfl ?_
          refine w_gb (ykc_259 (e := (4, .goto (-30), 4)) rfl) (fun k332 hk332 => ?_)
          have et : zS (fun f => !rk f) (k + 1) = (zS (fun f => !rk f) k) ||| ((Int64.ofNat kG1) <<< ((zn k).toInt64 &&& 63)) := by
            show (zS (fun f => !rk f) k ||| bif !rk k then _ else _) = _
            rw [b330]
            rfl
          have h9 := ih k332 hk332 (k + 1) (by omega)
          rw [et] at h9
          exact h9
        · refine w_alu (pc' := 23) (st' := [.long (Int64.ofNat kG0), .long (zS (fun f => !rk f) k)]) (ykc_259 (e := (0, .lconst kG0, 0)) rfl) rfl rfl ?_
          refine w_br (pc' := 29) (st' := [.long (Int64.ofNat kG0), .long (zS (fun f => !rk f) k)]) (ykc_259 (e := (4, .goto 6, 29)) rfl) rfl ?_
          refine w_alu (pc' := 30) (st' := [.long ((zS (fun f => !rk f) k) ||| (Int64.ofNat kG0))]) (ykc_259 (e := (0, .lor, 0)) rfl) rfl rfl ?_
          refine w_store (pc' := 31) (L' := [some (.ref 170), some (.long ((zS (fun f => !rk f) k) ||| (Int64.ofNat kG0))), none, some (.int (zn k))]) (st' := []) (m := 1) (ykc_259 (e := (3, .lstore_n kF1, 0)) rfl) rfl rfl ?_
          have e333 : (zn k) + Int32.ofInt 1 = zn (k + 1) := (zaddN (a := k) (b := 1) (znt (by omega)) c_1 (by omega))
          have te333 := znt (k := k + 1) (by omega)
          refine w_store (pc' := 34) (L' := [some (.ref 170), some (.long ((zS (fun f => !rk f) k) ||| (Int64.ofNat kG0))), none, some (.int (zn (k + 1)))]) (st' := []) (m := 3) (ykc_259 (e := (3, .iinc 3 1, 0)) rfl) (by rw [← e333]; rfl) rfl ?_
          refine w_gb (ykc_259 (e := (4, .goto (-30), 4)) rfl) (fun k334 hk334 => ?_)
          have et : zS (fun f => !rk f) (k + 1) = (zS (fun f => !rk f) k) ||| (Int64.ofNat kG0) := by
            show (zS (fun f => !rk f) k ||| bif !rk k then _ else _) = _
            rw [b330]
            rfl
          have h9 := ih k334 hk334 (k + 1) (by omega)
          rw [et] at h9
          exact h9
  exact hl n 0 (Nat.zero_le _)
theorem zor_n {a b : Nat} (ha : a < 256) (hb : b < 256) : zn a ||| zn b = zn (a ||| b) := by
  have h : ∀ a, a < 256 → ∀ b, b < 256 → Int32.toBitVec (zn a ||| zn b) = Int32.toBitVec (zn (a ||| b)) := by
    intro a ha b hb
    show BitVec.ofNat 32 a ||| BitVec.ofNat 32 b = BitVec.ofNat 32 (a ||| b)
    apply BitVec.eq_of_getLsbD_eq
    intro i hi
    simp [BitVec.getLsbD_or, BitVec.getLsbD_ofNat, Nat.testBit_or, hi]
  exact Int32.toBitVec_inj.mp (h a ha b hb)
theorem zor_lt {a b : Nat} (ha : a < 256) (hb : b < 256) : a ||| b < 256 := Nat.or_lt_two_pow (n := 8) ha hb
/-- a set as a number -/
def zNs (f : Nat → Bool) : Nat → Nat
  | 0 => 0
  | k + 1 => zNs f k ||| (bif f k then 2 ^ k else 0)
theorem zNs_lt {f : Nat → Bool} {n : Nat} (hn : n ≤ 8) : zNs f n < 256 := by
  induction n with
  | zero => exact (by decide : (0 : Nat) < 256)
  | succ n ih =>
    have h2 : 2 ^ n < 256 := Nat.pow_lt_pow_right (by decide) (show n < 8 by omega)
    unfold zNs
    cases f n with
    | true => exact zor_lt (ih (by omega)) h2
    | false => exact zor_lt (ih (by omega)) (show (0 : Nat) < 256 by decide)
theorem zsh1 : ∀ k, k < 31 → Int32.ofInt 1 <<< (zn k &&& 31) = zn (2 ^ k) := by decide
theorem zT_N {f : Nat → Bool} {n : Nat} (hn : n ≤ 8) : zT f n = zn (zNs f n) := by
  induction n with
  | zero => rfl
  | succ n ih =>
    have h2 : 2 ^ n < 256 := Nat.pow_lt_pow_right (by decide) (show n < 8 by omega)
    show zT f n ||| _ = zn (zNs f n ||| _)
    rw [ih (by omega)]
    cases f n with
    | true => rw [cond_true, cond_true, zsh1 n (by omega), zor_n (zNs_lt (by omega)) h2]
    | false => rw [cond_false, cond_false, show Int32.ofInt 0 = zn 0 from rfl, zor_n (zNs_lt (by omega)) (by decide)]
theorem zNs_b {f : Nat → Bool} {n k : Nat} : (zNs f n).testBit k = (decide (k < n) && f k) := by
  induction n with
  | zero => simp [zNs]
  | succ n ih =>
    show (zNs f n ||| _).testBit k = _
    rw [Nat.testBit_or, ih]
    cases hf : f n with
    | true =>
      rw [cond_true, Nat.testBit_two_pow]
      by_cases e : k = n
      · subst e; simp [hf]
      · have h1 : ¬ n = k := fun q => e q.symm
        have h2 : (k < n + 1) ↔ (k < n) := by omega
        simp [h1, h2]
    | false =>
      rw [cond_false]
      by_cases e : k = n
      · subst e; simp [hf]
      · have h2 : (k < n + 1) ↔ (k < n) := by omega
        simp [h2]
/-- one place of a row of numbers -/
def znu (f : Nat → Nat) (i x : Nat) : Nat → Nat := fun j => if j = i then x else f j
/-- an HOUR: what each KNOWS by itself; then by pairs -/
noncomputable def zHb (E : zEn) (P G : Nat) (v : Nat → Nat) (p : Nat) : Nat := v (24 + p) ||| zNs (fun t => zb (zVw E P v p) (v (32 + t))) G
def zHi (E : zEn) (P : Nat) (v : Nat → Nat) (l : Nat → Nat) (a : Nat) : Nat → Nat → Nat
  | 0 => l
  | m + 1 => bif zTell E P v a (a + 1 + m) then znu (znu (zHi E P v l a m) a (zHi E P v l a m a ||| v (24 + (a + 1 + m)))) (a + 1 + m) (zHi E P v l a m (a + 1 + m) ||| v (24 + a)) else zHi E P v l a m
noncomputable def zHo (E : zEn) (P G : Nat) (v : Nat → Nat) : Nat → Nat → Nat
  | 0 => zHb E P G v
  | a + 1 => zHi E P v (zHo E P G v a) a (P - (a + 1))
/-- the row an HOUR later -/
noncomputable def zHr (E : zEn) (P G : Nat) (v : Nat → Nat) (i : Nat) : Nat := if 24 ≤ i ∧ i < 24 + P then zHo E P G v P (i - 24) else if i = 40 then v 40 + 1 else v i
theorem zHb_lt {E : zEn} {P G : Nat} {v : Nat → Nat} {p : Nat} (h : v (24 + p) < 256) (hG : G ≤ 8) : zHb E P G v p < 256 := zor_lt h (zNs_lt hG)
theorem zHi_lt {E : zEn} {P : Nat} {v l : Nat → Nat} {a : Nat} (hl : ∀ i, i < P → l i < 256) (hv : ∀ i, i < P → v (24 + i) < 256) (ha : a < P) : ∀ m, a + 1 + m ≤ P → ∀ i, i < P → zHi E P v l a m i < 256 := by
  intro m
  induction m with
  | zero => intro _ i hi; exact hl i hi
  | succ m ih =>
    intro hm i hi
    have h1 := ih (by omega)
    unfold zHi
    cases zTell E P v a (a + 1 + m) with
    | false => exact h1 i hi
    | true =>
      rw [cond_true]
      unfold znu
      by_cases e1 : i = a + 1 + m
      · rw [if_pos e1]; exact zor_lt (h1 _ (by omega)) (hv a ha)
      · rw [if_neg e1]
        by_cases e2 : i = a
        · rw [if_pos e2]; exact zor_lt (h1 _ ha) (hv _ (by omega))
        · rw [if_neg e2]; exact h1 i hi
theorem zHo_lt {E : zEn} {P G : Nat} {v : Nat → Nat} (hv : ∀ i, i < P → v (24 + i) < 256) (hG : G ≤ 8) : ∀ a, a ≤ P → ∀ i, i < P → zHo E P G v a i < 256 := by
  intro a
  induction a with
  | zero => intro _ i hi; exact zHb_lt (hv i hi) hG
  | succ a ih => intro ha i hi; exact zHi_lt (ih (by omega)) hv (by omega) _ (by omega) i hi
def zHc (A : Nat) (p q : pm_H) : Prop := zFr [181, 182, 184, A] [] p q
theorem zHc_e {A : Nat} (hA : A = 174 ∨ A = 175) {p q : pm_H} {E : zEn} (f : zHc A p q) (h : zMe p E) : zMe q E := by
  rcases hA with e | e <;> subst e
  · exact ⟨zMl_F f (by simp) (by simp) (by simp) (by simp) h.1, zMr_F f (by simp) (by simp) (by simp) (by simp) h.2.1, h.2.2⟩
  · exact ⟨zMl_F f (by simp) (by simp) (by simp) (by simp) h.1, zMr_F f (by simp) (by simp) (by simp) (by simp) h.2.1, h.2.2⟩
theorem zHc_p {A : Nat} (hA : A = 174 ∨ A = 175) {p q : pm_H} {P G : Nat} (f : zHc A p q) (h : zMp p P G) : zMp q P G := by
  rcases hA with e | e <;> subst e
  · exact zMp_F f (by simp) (by simp) (by simp) h
  · exact zMp_F f (by simp) (by simp) (by simp) h
theorem zHc_S {A : Nat} (hA : A = 174 ∨ A = 175) {p q : pm_H} (f : zHc A p q) (h : zSh p) : zSh q := by
  rcases hA with e | e <;> subst e
  · exact zSh_F f (by decide +kernel) h
  · exact zSh_F f (by decide +kernel) h
/-- scratch of an HOUR, the row not yet written -/
def zHs (p q : pm_H) : Prop := zFr [181, 182, 184] [] p q
theorem zHs_sc {p q : pm_H} (f : zSc p q) : zHs p q := zFr_mono f (by simp) (by simp)
theorem zHs_e {p q : pm_H} {E : zEn} (f : zHs p q) (h : zMe p E) : zMe q E := ⟨zMl_F f (by simp) (by simp) (by simp) (by simp) h.1, zMr_F f (by simp) (by simp) (by simp) (by simp) h.2.1, h.2.2⟩
theorem zHs_p {p q : pm_H} {P G : Nat} (f : zHs p q) (h : zMp p P G) : zMp q P G := zMp_F f (by simp) (by simp) (by simp) h
theorem zHs_S {p q : pm_H} (f : zHs p q) (h : zSh p) : zSh q := zSh_F f (by decide +kernel) h
theorem zHs_a {p q : pm_H} {A o : Nat} {v : Nat → Nat} (f : zHs p q) (h : (A = 174 ∨ A = 175) ∧ zNr p A o v) : (A = 174 ∨ A = 175) ∧ zNr q A o v := ⟨h.1, zNr_F f (by simp) (by simp; have := h.1; omega) h.2⟩
theorem zHs_l {p q : pm_H} {R C : Nat} {rk : Nat → Bool} (f : zHs p q) (h : zMl p R C rk) : zMl q R C rk := zMl_F f (by simp) (by simp) (by simp) (by simp) h
theorem zm_hour {ph : pm_H} {E : zEn} {P G A : Nat} {v : Nat → Nat} (hS : zSh ph) (hE : zMe ph E) (hN : zMp ph P G) (hA : A = 174 ∨ A = 175) (hv : zNr ph A 0 v) (hO : zOk E.1 E.2.1 P G v) (hh : v 40 < 999999) : zM 242 [.ref 170, .ref A] ph (fun v0 q => v0 = none ∧ zHc A ph q ∧ zNr q A 0 (zHr E P G v)) := by
  obtain ⟨Q, hQ⟩ : ∃ Q : Option Value → pm_H → Prop, Q = (fun v0 q => v0 = none ∧ zHc A ph q ∧ zNr q A 0 (zHr E P G v)) := ⟨_, rfl⟩
  rw [← hQ]
  refine zM_mk fun n D => ?_
  show zW n D 242 Q 0 [some (.ref 170), some (.ref A), none, none] [] ph
  have c_0 : ((Int8.ofInt 24).toInt32).toInt = 24 := by decide
  have c_1 : ((Int8.ofInt 40).toInt32).toInt = 40 := by decide
  have c_2 : (Int32.ofInt 0).toInt = 0 := by decide
  have c_3 : (Int32.ofInt 1).toInt = 1 := by decide
  obtain ⟨R, C, rk, sn, sk, cn, cd⟩ := E
  have hL0 : zMl ph R C rk := hE.1
  have hR0 : zMr ph sn sk cn cd := hE.2.1
  have hcg : zcg cn cd := hE.2.2
  have hE0 : zMe ph (R, C, rk, sn, sk, cn, cd) := hE
  have hO0 : zOk R C P G v := hO
  have hN0 := hN
  have hL := hL0
  have hR := hR0
  obtain ⟨gR, gC, gK, hR3, hR7, hC3, hC7⟩ := hL
  have hRC := zRC49 hR7 hC7
  have tR := znt (k := R) (by omega)
  have tC := znt (k := C) (by omega)
  obtain ⟨gP, hP8, gG, hG8⟩ := hN
  have tP := znt (k := P) (by omega)
  have tG := znt (k := G) (by omega)
  obtain ⟨gsn, hs1, hs20, gsk, gcn, hc40, gcd⟩ := hR
  have tsn := znt (k := sn) (by omega)
  have tcn := znt (k := cn) (by omega)
  have hv256 : ∀ i, i < P → v (24 + i) < 256 := fun i hi => (hO0.1 i hi).2.2.2
  have hl3 : ∀ (n : Nat), ∀ (k : Nat) (x3 : Option Value) (ph1 : pm_H), (k ≤ P) → (zHc A ph ph1) → (∀ i, i < P → zc ph1 184 i = some (.int (zn (zHo (R, C, rk, sn, sk, cn, cd) P G v P i)))) → (∀ i, i < 41 → zc ph1 A i = some (.int (zn (if 24 ≤ i ∧ i < 24 + k then zHo (R, C, rk, sn, sk, cn, cd) P G v P (i - 24) else v i)))) → zW n D 242 Q 116 [some (.ref 170), some (.ref A), some (.int (zn k)), x3] [] ph1 := by
    intro n
    induction n using Nat.strongRecOn with
    | ind n ih =>
      intro k x3 ph1 hk hf hlr hrow
      have tk := znt (k := k) (by omega)
      refine w_load (pc' := 117) (v := .int (zn k)) (m := 1) (ykc_242 (e := (2, .iload_n kF2, 0)) rfl) rfl rfl ?_
      refine w_load (pc' := 118) (v := .ref 170) (m := 1) (ykc_242 (e := (2, .aload_n kF0, 0)) rfl) rfl rfl ?_
      refine w_gf (pc' := 121) (v := .int (zn P)) (ykc_242 (e := (5, .getfield 130, 0)) rfl) rfl ((hf.1 170 5 (by simp <;> omega) (by simp <;> omega)).trans gP) rfl ?_
      refine w_ige (ykc_242 (e := (4, .if_icmp .ge 21, 142)) rfl) rfl (fun b335 => ?_) (fun b335 => ?_)
      · refine w_load (pc' := 143) (v := .ref A) (m := 1) (ykc_242 (e := (2, .aload_n kF1, 0)) rfl) rfl rfl ?_
        refine w_push (pc' := 145) (v := .int ((Int8.ofInt 40).toInt32)) (m := 2) (ykc_242 (e := (1, .bipush 40, 0)) rfl) rfl rfl ?_
        have h40 := hO0.2.2
        have t40 := znt (k := v 40) (by omega)
        refine w_alu (pc' := 146) (st' := [.int ((Int8.ofInt 40).toInt32), .ref A, .int ((Int8.ofInt 40).toInt32), .ref A]) (ykc_242 (e := (0, .dup2, 0)) rfl) rfl rfl ?_
        refine w_ialk (pc' := 147) (k := 40) (ykc_242 (e := (5, .iaload, 0)) rfl) (by have h := hrow 40 (by omega); rwa [if_neg (by omega)] at h) (by omega) rfl ?_
        refine w_alu (pc' := 148) (st' := [.int (Int32.ofInt 1), .int (zn (v 40)), .int ((Int8.ofInt 40).toInt32), .ref A]) (ykc_242 (e := (0, .iconst 1, 0)) rfl) rfl rfl ?_
        have e336 : (zn (v 40)) + (Int32.ofInt 1) = zn (v 40 + 1) := (zaddN (a := v 40) (b := 1) (znt (by omega)) c_3 (by omega)) 
        have te336 := znt (k := v 40 + 1) (by omega)
        refine w_alu (pc' := 149) (st' := [.int (zn (v 40 + 1)), .int ((Int8.ofInt 40).toInt32), .ref A]) (ykc_242 (e := (0, .iadd, 0)) rfl) (by rw [← e336]; rfl) rfl ?_
        refine w_ias (pc' := 150) (k := 40) (ykc_242 (e := (5, .iastore, 0)) rfl) (by omega) rfl (fun ph338 u337 => ?_)
        refine w_ret (v := none) (ykc_242 (e := (7, .return_, 0)) rfl) (zr_v rfl) ?_
        have ek : P = k := by omega
        subst ek
        rw [hQ]
        refine ⟨rfl, zFr_add hf u337 (Or.inl (by simp)), fun i hi => ?_⟩
        rw [Nat.zero_add]
        unfold zHr
        by_cases e : i = 40
        · subst e
          rw [if_neg (by omega), if_pos rfl]
          exact u337.1
        · refine (u337.2.1 A i (fun q => e q.2)).trans ((hrow i hi).trans ?_)
          rw [if_neg e]
      · refine w_load (pc' := 125) (v := .ref A) (m := 1) (ykc_242 (e := (2, .aload_n kF1, 0)) rfl) rfl rfl ?_
        refine w_push (pc' := 127) (v := .int ((Int8.ofInt 24).toInt32)) (m := 2) (ykc_242 (e := (1, .bipush 24, 0)) rfl) rfl rfl ?_
        refine w_load (pc' := 128) (v := .int (zn k)) (m := 1) (ykc_242 (e := (2, .iload_n kF2, 0)) rfl) rfl rfl ?_
        have e339 : ((Int8.ofInt 24).toInt32) + (zn k) = zn (24 + k) := (zaddN (a := 24) (b := k) c_0 (znt (by omega)) (by omega)) 
        have te339 := znt (k := 24 + k) (by omega)
        refine w_alu (pc' := 129) (st' := [.int (zn (24 + k)), .ref A]) (ykc_242 (e := (0, .iadd, 0)) rfl) (by rw [← e339]; rfl) rfl ?_
        refine w_load (pc' := 130) (v := .ref 170) (m := 1) (ykc_242 (e := (2, .aload_n kF0, 0)) rfl) rfl rfl ?_
        refine w_gf (pc' := 133) (v := .ref 184) (ykc_242 (e := (5, .getfield 71, 0)) rfl) rfl ((hf.1 170 29 (by simp <;> omega) (by simp <;> omega)).trans (zsg hS zs_170_29)) rfl ?_
        refine w_load (pc' := 134) (v := .int (zn k)) (m := 1) (ykc_242 (e := (2, .iload_n kF2, 0)) rfl) rfl rfl ?_
        refine w_ialk (pc' := 135) (k := k) (ykc_242 (e := (5, .iaload, 0)) rfl) (hlr k (by omega)) (by omega) rfl ?_
        refine w_ias (pc' := 136) (k := 24 + k) (ykc_242 (e := (5, .iastore, 0)) rfl) (by omega) rfl (fun ph341 u340 => ?_)
        have e342 : (zn k) + Int32.ofInt 1 = zn (k + 1) := (zaddN (a := k) (b := 1) (znt (by omega)) c_3 (by omega))
        have te342 := znt (k := k + 1) (by omega)
        refine w_store (pc' := 139) (L' := [some (.ref 170), some (.ref A), some (.int (zn (k + 1))), x3]) (st' := []) (m := 3) (ykc_242 (e := (3, .iinc 2 1, 0)) rfl) (by rw [← e342]; rfl) rfl ?_
        refine w_gb (ykc_242 (e := (4, .goto (-23), 116)) rfl) (fun k343 hk343 => ?_)
        exact ih k343 hk343 (k + 1) _ ph341 (by omega) (zFr_add hf u340 (Or.inl (by simp))) (fun i hi => (u340.2.1 184 i (fun q => by have q2 := q.1; omega)).trans (hlr i hi)) (fun i hi => by
          by_cases e : i = 24 + k
          · subst e
            rw [if_pos (by omega), show 24 + k - 24 = k by omega]
            exact u340.1
          · refine (u340.2.1 A i (fun q => e q.2)).trans ((hrow i hi).trans ?_)
            by_cases e2 : 24 ≤ i ∧ i < 24 + k
            · rw [if_pos e2, if_pos (by omega)]
            · rw [if_neg e2, if_neg (by omega)])
  have hl2 : ∀ (n : Nat), ∀ (a : Nat) (x3 : Option Value) (ph1 : pm_H), (a ≤ P) → (zHs ph ph1) → (∀ i, i < P → zc ph1 184 i = some (.int (zn (zHo (R, C, rk, sn, sk, cn, cd) P G v a i)))) → zW n D 242 Q 42 [some (.ref 170), some (.ref A), some (.int (zn a)), x3] [] ph1 := by
    intro n
    induction n using Nat.strongRecOn with
    | ind n ih =>
      intro a x3 ph1 ha hf hlr
      have ta := znt (k := a) (by omega)
      have hin : ∀ (n1 : Nat), n1 ≤ n → ∀ (m : Nat) (ph2 : pm_H), a + 1 + m ≤ P → zHs ph ph2 → (∀ i, i < P → zc ph2 184 i = some (.int (zn (zHi (R, C, rk, sn, sk, cn, cd) P v (zHo (R, C, rk, sn, sk, cn, cd) P G v a) a m i)))) → zW n1 D 242 Q 54 [some (.ref 170), some (.ref A), some (.int (zn a)), some (.int (zn (a + 1 + m)))] [] ph2 := by
        intro n1
        induction n1 using Nat.strongRecOn with
        | ind n1 ih1 =>
          intro hn1 m ph2 hm hf2 hl
          have tb := znt (k := a + 1 + m) (by omega)
          refine w_load (pc' := 55) (v := .int (zn (a + 1 + m))) (m := 1) (ykc_242 (e := (2, .iload_n kF3, 0)) rfl) rfl rfl ?_
          refine w_load (pc' := 56) (v := .ref 170) (m := 1) (ykc_242 (e := (2, .aload_n kF0, 0)) rfl) rfl rfl ?_
          refine w_gf (pc' := 59) (v := .int (zn P)) (ykc_242 (e := (5, .getfield 130, 0)) rfl) rfl ((hf2.1 170 5 (by decide) (by decide)).trans gP) rfl ?_
          refine w_ige (ykc_242 (e := (4, .if_icmp .ge 49, 108)) rfl) rfl (fun b344 => ?_) (fun b344 => ?_)
          · have e345 : (zn a) + Int32.ofInt 1 = zn (a + 1) := (zaddN (a := a) (b := 1) (znt (by omega)) c_3 (by omega))
            have te345 := znt (k := a + 1) (by omega)
            refine w_store (pc' := 111) (L' := [some (.ref 170), some (.ref A), some (.int (zn (a + 1))), some (.int (zn (a + 1 + m)))]) (st' := []) (m := 3) (ykc_242 (e := (3, .iinc 2 1, 0)) rfl) (by rw [← e345]; rfl) rfl ?_
            refine w_gb (ykc_242 (e := (4, .goto (-69), 42)) rfl) (fun k346 hk346 => ?_)
            have em : m = P - (a + 1) := by omega
            subst em
            exact ih k346 (by omega) (a + 1) _ _ (by omega) hf2 hl
          · refine w_load (pc' := 63) (v := .ref 170) (m := 1) (ykc_242 (e := (2, .aload_n kF0, 0)) rfl) rfl rfl ?_
            refine w_load (pc' := 64) (v := .ref A) (m := 1) (ykc_242 (e := (2, .aload_n kF1, 0)) rfl) rfl rfl ?_
            refine w_load (pc' := 65) (v := .int (zn a)) (m := 1) (ykc_242 (e := (2, .iload_n kF2, 0)) rfl) rfl rfl ?_
            refine w_load (pc' := 66) (v := .int (zn (a + 1 + m))) (m := 1) (ykc_242 (e := (2, .iload_n kF3, 0)) rfl) rfl rfl ?_
            refine w_cv (as := [.ref 170, .ref A, .int (zn a), .int (zn (a + 1 + m))]) (r := []) (ykc_242 (e := (6, .invokevirtual 344, 0)) rfl) rfl rfl rfl rfl (zm_tell (zHs_S hf2 hS) (zHs_e hf2 hE0) (zHs_p hf2 hN0) (zHs_a hf2 (⟨hA, hv⟩ : (A = 174 ∨ A = 175) ∧ zNr ph A 0 v)).1 (zHs_a hf2 (⟨hA, hv⟩ : (A = 174 ∨ A = 175) ∧ zNr ph A 0 v)).2 hO0 (a := a) (b := a + 1 + m) (by omega) (by omega)) (fun v348 ph349 hv => ?_)
            obtain ⟨f347, rfl⟩ := hv
            show zW n1 D 242 Q 69 [some (.ref 170), some (.ref A), some (.int (zn a)), some (.int (zn (a + 1 + m)))] [.int (zI (zTell (R, C, rk, sn, sk, cn, cd) P v a (a + 1 + m)))] ph349
            refine w_beq (ykc_242 (e := (4, .ifCond .eq 33, 102)) rfl) rfl (fun b350 => ?_) (fun b350 => ?_)
            · have e351 : (zn (a + 1 + m)) + Int32.ofInt 1 = zn (a + 1 + m + 1) := (zaddN (a := a + 1 + m) (b := 1) (znt (by omega)) c_3 (by omega))
              have te351 := znt (k := a + 1 + m + 1) (by omega)
              refine w_store (pc' := 105) (L' := [some (.ref 170), some (.ref A), some (.int (zn a)), some (.int (zn (a + 1 + m + 1)))]) (st' := []) (m := 3) (ykc_242 (e := (3, .iinc 3 1, 0)) rfl) (by rw [← e351]; rfl) rfl ?_
              refine w_gb (ykc_242 (e := (4, .goto (-51), 54)) rfl) (fun k352 hk352 => ?_)
              have et : zHi (R, C, rk, sn, sk, cn, cd) P v (zHo (R, C, rk, sn, sk, cn, cd) P G v a) a (m + 1) = zHi (R, C, rk, sn, sk, cn, cd) P v (zHo (R, C, rk, sn, sk, cn, cd) P G v a) a m := by
                show (bif zTell (R, C, rk, sn, sk, cn, cd) P v a (a + 1 + m) then _ else _) = _
                rw [b350]
                rfl
              exact ih1 k352 hk352 (by omega) (m + 1) _ (by omega) (zFr_trans hf2 (zHs_sc f347)) (fun i hi => by
                rw [et]
                exact (f347.1 184 i (by decide) (by simp)).trans (hl i hi))
            · refine w_load (pc' := 73) (v := .ref 170) (m := 1) (ykc_242 (e := (2, .aload_n kF0, 0)) rfl) rfl rfl ?_
              refine w_gf (pc' := 76) (v := .ref 184) (ykc_242 (e := (5, .getfield 71, 0)) rfl) rfl ((f347.1 170 29 (by decide) (by decide)).trans ((hf2.1 170 29 (by decide) (by decide)).trans (zsg hS zs_170_29))) rfl ?_
              refine w_load (pc' := 77) (v := .int (zn a)) (m := 1) (ykc_242 (e := (2, .iload_n kF2, 0)) rfl) rfl rfl ?_
              refine w_alu (pc' := 78) (st' := [.int (zn a), .ref 184, .int (zn a), .ref 184]) (ykc_242 (e := (0, .dup2, 0)) rfl) rfl rfl ?_
              have q353 := zHi_lt (E := (R, C, rk, sn, sk, cn, cd)) (l := zHo (R, C, rk, sn, sk, cn, cd) P G v a) (zHo_lt hv256 hG8 a (by omega)) hv256 (show a < P by omega) m (by omega) a (by omega)
              have tq353 := znt (k := zHi (R, C, rk, sn, sk, cn, cd) P v (zHo (R, C, rk, sn, sk, cn, cd) P G v a) a m a) (by omega)
              refine w_ialk (pc' := 79) (k := a) (ykc_242 (e := (5, .iaload, 0)) rfl) ((f347.1 184 a (by decide) (by simp)).trans (hl a (by omega))) (by omega) rfl ?_
              refine w_load (pc' := 80) (v := .ref A) (m := 1) (ykc_242 (e := (2, .aload_n kF1, 0)) rfl) rfl rfl ?_
              refine w_push (pc' := 82) (v := .int ((Int8.ofInt 24).toInt32)) (m := 2) (ykc_242 (e := (1, .bipush 24, 0)) rfl) rfl rfl ?_
              refine w_load (pc' := 83) (v := .int (zn (a + 1 + m))) (m := 1) (ykc_242 (e := (2, .iload_n kF3, 0)) rfl) rfl rfl ?_
              have e354 : ((Int8.ofInt 24).toInt32) + (zn (a + 1 + m)) = zn (24 + (a + 1 + m)) := (zaddN (a := 24) (b := a + 1 + m) c_0 (znt (by omega)) (by omega)) 
              have te354 := znt (k := 24 + (a + 1 + m)) (by omega)
              refine w_alu (pc' := 84) (st' := [.int (zn (24 + (a + 1 + m))), .ref A, .int (zn (zHi (R, C, rk, sn, sk, cn, cd) P v (zHo (R, C, rk, sn, sk, cn, cd) P G v a) a m a)), .int (zn a), .ref 184]) (ykc_242 (e := (0, .iadd, 0)) rfl) (by rw [← e354]; rfl) rfl ?_
              have q355 := hO0.1 (a + 1 + m) (by omega)
              have tq355 := znt (k := v (24 + (a + 1 + m))) (by omega)
              refine w_ialk (pc' := 85) (k := 24 + (a + 1 + m)) (ykc_242 (e := (5, .iaload, 0)) rfl) ((f347.1 A (24 + (a + 1 + m)) (by simp <;> omega) (by simp <;> omega)).trans ((hf2.1 A (24 + (a + 1 + m)) (by simp <;> omega) (by simp <;> omega)).trans (zNr0 hv (i := 24 + (a + 1 + m)) (by omega)))) (by omega) rfl ?_
              refine w_alu (pc' := 86) (st' := [.int (zn (zHi (R, C, rk, sn, sk, cn, cd) P v (zHo (R, C, rk, sn, sk, cn, cd) P G v a) a m a ||| v (24 + (a + 1 + m)))), .int (zn a), .ref 184]) (ykc_242 (e := (0, .ior, 0)) rfl) (by rw [← (zor_n (by omega) (by omega) : (zn (zHi (R, C, rk, sn, sk, cn, cd) P v (zHo (R, C, rk, sn, sk, cn, cd) P G v a) a m a)) ||| (zn (v (24 + (a + 1 + m)))) = zn (zHi (R, C, rk, sn, sk, cn, cd) P v (zHo (R, C, rk, sn, sk, cn, cd) P G v a) a m a ||| v (24 + (a + 1 + m))))]; rfl) rfl ?_
              refine w_ias (pc' := 87) (k := a) (ykc_242 (e := (5, .iastore, 0)) rfl) (by omega) rfl (fun ph357 u356 => ?_)
              refine w_load (pc' := 88) (v := .ref 170) (m := 1) (ykc_242 (e := (2, .aload_n kF0, 0)) rfl) rfl rfl ?_
              refine w_gf (pc' := 91) (v := .ref 184) (ykc_242 (e := (5, .getfield 71, 0)) rfl) rfl ((u356.2.1 170 29 (fun q => absurd q.1 (by decide))).trans ((f347.1 170 29 (by decide) (by decide)).trans ((hf2.1 170 29 (by decide) (by decide)).trans (zsg hS zs_170_29)))) rfl ?_
              refine w_load (pc' := 92) (v := .int (zn (a + 1 + m))) (m := 1) (ykc_242 (e := (2, .iload_n kF3, 0)) rfl) rfl rfl ?_
              refine w_alu (pc' := 93) (st' := [.int (zn (a + 1 + m)), .ref 184, .int (zn (a + 1 + m)), .ref 184]) (ykc_242 (e := (0, .dup2, 0)) rfl) rfl rfl ?_
              have q358 := zHi_lt (E := (R, C, rk, sn, sk, cn, cd)) (l := zHo (R, C, rk, sn, sk, cn, cd) P G v a) (zHo_lt hv256 hG8 a (by omega)) hv256 (show a < P by omega) m (by omega) (a + 1 + m) (by omega)
              have tq358 := znt (k := zHi (R, C, rk, sn, sk, cn, cd) P v (zHo (R, C, rk, sn, sk, cn, cd) P G v a) a m (a + 1 + m)) (by omega)
              refine w_ialk (pc' := 94) (k := a + 1 + m) (ykc_242 (e := (5, .iaload, 0)) rfl) ((u356.2.1 184 (a + 1 + m) (fun q => by have q2 := q.2; omega)).trans ((f347.1 184 (a + 1 + m) (by decide) (by simp)).trans (hl (a + 1 + m) (by omega)))) (by omega) rfl ?_
              refine w_load (pc' := 95) (v := .ref A) (m := 1) (ykc_242 (e := (2, .aload_n kF1, 0)) rfl) rfl rfl ?_
              refine w_push (pc' := 97) (v := .int ((Int8.ofInt 24).toInt32)) (m := 2) (ykc_242 (e := (1, .bipush 24, 0)) rfl) rfl rfl ?_
              refine w_load (pc' := 98) (v := .int (zn a)) (m := 1) (ykc_242 (e := (2, .iload_n kF2, 0)) rfl) rfl rfl ?_
              have e359 : ((Int8.ofInt 24).toInt32) + (zn a) = zn (24 + a) := (zaddN (a := 24) (b := a) c_0 (znt (by omega)) (by omega)) 
              have te359 := znt (k := 24 + a) (by omega)
              refine w_alu (pc' := 99) (st' := [.int (zn (24 + a)), .ref A, .int (zn (zHi (R, C, rk, sn, sk, cn, cd) P v (zHo (R, C, rk, sn, sk, cn, cd) P G v a) a m (a + 1 + m))), .int (zn (a + 1 + m)), .ref 184]) (ykc_242 (e := (0, .iadd, 0)) rfl) (by rw [← e359]; rfl) rfl ?_
              have q360 := hO0.1 a (by omega)
              have tq360 := znt (k := v (24 + a)) (by omega)
              refine w_ialk (pc' := 100) (k := 24 + a) (ykc_242 (e := (5, .iaload, 0)) rfl) ((u356.2.1 A (24 + a) (fun q => by have q2 := q.1; omega)).trans ((f347.1 A (24 + a) (by simp <;> omega) (by simp <;> omega)).trans ((hf2.1 A (24 + a) (by simp <;> omega) (by simp <;> omega)).trans (zNr0 hv (i := 24 + a) (by omega))))) (by omega) rfl ?_
              refine w_alu (pc' := 101) (st' := [.int (zn (zHi (R, C, rk, sn, sk, cn, cd) P v (zHo (R, C, rk, sn, sk, cn, cd) P G v a) a m (a + 1 + m) ||| v (24 + a))), .int (zn (a + 1 + m)), .ref 184]) (ykc_242 (e := (0, .ior, 0)) rfl) (by rw [← (zor_n (by omega) (by omega) : (zn (zHi (R, C, rk, sn, sk, cn, cd) P v (zHo (R, C, rk, sn, sk, cn, cd) P G v a) a m (a + 1 + m))) ||| (zn (v (24 + a))) = zn (zHi (R, C, rk, sn, sk, cn, cd) P v (zHo (R, C, rk, sn, sk, cn, cd) P G v a) a m (a + 1 + m) ||| v (24 + a)))]; rfl) rfl ?_
              refine w_ias (pc' := 102) (k := a + 1 + m) (ykc_242 (e := (5, .iastore, 0)) rfl) (by omega) rfl (fun ph362 u361 => ?_)
              have e363 : (zn (a + 1 + m)) + Int32.ofInt 1 = zn (a + 1 + m + 1) := (zaddN (a := a + 1 + m) (b := 1) (znt (by omega)) c_3 (by omega))
              have te363 := znt (k := a + 1 + m + 1) (by omega)
              refine w_store (pc' := 105) (L' := [some (.ref 170), some (.ref A), some (.int (zn a)), some (.int (zn (a + 1 + m + 1)))]) (st' := []) (m := 3) (ykc_242 (e := (3, .iinc 3 1, 0)) rfl) (by rw [← e363]; rfl) rfl ?_
              refine w_gb (ykc_242 (e := (4, .goto (-51), 54)) rfl) (fun k364 hk364 => ?_)
              have et : zHi (R, C, rk, sn, sk, cn, cd) P v (zHo (R, C, rk, sn, sk, cn, cd) P G v a) a (m + 1) = znu (znu (zHi (R, C, rk, sn, sk, cn, cd) P v (zHo (R, C, rk, sn, sk, cn, cd) P G v a) a m) a (zHi (R, C, rk, sn, sk, cn, cd) P v (zHo (R, C, rk, sn, sk, cn, cd) P G v a) a m a ||| v (24 + (a + 1 + m)))) (a + 1 + m) (zHi (R, C, rk, sn, sk, cn, cd) P v (zHo (R, C, rk, sn, sk, cn, cd) P G v a) a m (a + 1 + m) ||| v (24 + a)) := by
                show (bif zTell (R, C, rk, sn, sk, cn, cd) P v a (a + 1 + m) then _ else _) = _
                rw [b350]
                rfl
              exact ih1 k364 hk364 (by omega) (m + 1) _ (by omega) (zFr_trans (zFr_trans (zFr_trans hf2 (zHs_sc f347)) (zFr_st u356 (Or.inl (by simp)))) (zFr_st u361 (Or.inl (by simp)))) (fun i hi => by
                rw [et]
                unfold znu
                by_cases e1 : i = a + 1 + m
                · rw [if_pos e1, e1]
                  exact u361.1
                · rw [if_neg e1]
                  by_cases e2 : i = a
                  · rw [if_pos e2, e2]
                    exact (u361.2.1 184 a (fun q => by have q2 := q.2; omega)).trans u356.1
                  · rw [if_neg e2]
                    exact (u361.2.1 184 i (fun q => e1 q.2)).trans ((u356.2.1 184 i (fun q => e2 q.2)).trans ((f347.1 184 i (by decide) (by simp)).trans (hl i hi))))
      refine w_load (pc' := 43) (v := .int (zn a)) (m := 1) (ykc_242 (e := (2, .iload_n kF2, 0)) rfl) rfl rfl ?_
      refine w_load (pc' := 44) (v := .ref 170) (m := 1) (ykc_242 (e := (2, .aload_n kF0, 0)) rfl) rfl rfl ?_
      refine w_gf (pc' := 47) (v := .int (zn P)) (ykc_242 (e := (5, .getfield 130, 0)) rfl) rfl ((hf.1 170 5 (by decide) (by decide)).trans gP) rfl ?_
      refine w_ige (ykc_242 (e := (4, .if_icmp .ge 67, 114)) rfl) rfl (fun b365 => ?_) (fun b365 => ?_)
      · refine w_alu (pc' := 115) (st' := [.int (Int32.ofInt 0)]) (ykc_242 (e := (0, .iconst 0, 0)) rfl) rfl rfl ?_
        refine w_store (pc' := 116) (L' := [some (.ref 170), some (.ref A), some (.int (Int32.ofInt 0)), x3]) (st' := []) (m := 1) (ykc_242 (e := (3, .istore_n kF2, 0)) rfl) rfl rfl ?_
        have ea : P = a := by omega
        subst ea
        exact hl3 n 0 _ ph1 (Nat.zero_le _) (zFr_mono hf (by simp) (by simp)) hlr (fun i hi => by
          rw [if_neg (by omega)]
          exact (hf.1 A i (by simp <;> omega) (by simp)).trans (zNr0 hv hi))
      · refine w_load (pc' := 51) (v := .int (zn a)) (m := 1) (ykc_242 (e := (2, .iload_n kF2, 0)) rfl) rfl rfl ?_
        refine w_alu (pc' := 52) (st' := [.int (Int32.ofInt 1), .int (zn a)]) (ykc_242 (e := (0, .iconst 1, 0)) rfl) rfl rfl ?_
        have e366 : (zn a) + (Int32.ofInt 1) = zn (a + 1) := (zaddN (a := a) (b := 1) (znt (by omega)) c_3 (by omega)) 
        have te366 := znt (k := a + 1) (by omega)
        refine w_alu (pc' := 53) (st' := [.int (zn (a + 1))]) (ykc_242 (e := (0, .iadd, 0)) rfl) (by rw [← e366]; rfl) rfl ?_
        refine w_store (pc' := 54) (L' := [some (.ref 170), some (.ref A), some (.int (zn a)), some (.int (zn (a + 1)))]) (st' := []) (m := 1) (ykc_242 (e := (3, .istore_n kF3, 0)) rfl) rfl rfl ?_
        exact hin _ (Nat.le_refl _) 0 ph1 (by omega) hf hlr
  have hl1 : ∀ (n : Nat), ∀ (k : Nat) (x3 : Option Value) (ph1 : pm_H), (k ≤ P) → (zHs ph ph1) → (∀ i, i < k → zc ph1 184 i = some (.int (zn (zHb (R, C, rk, sn, sk, cn, cd) P G v i)))) → zW n D 242 Q 2 [some (.ref 170), some (.ref A), some (.int (zn k)), x3] [] ph1 := by
    intro n
    induction n using Nat.strongRecOn with
    | ind n ih =>
      intro k x3 ph1 hk hf hlr
      have tk := znt (k := k) (by omega)
      refine w_load (pc' := 3) (v := .int (zn k)) (m := 1) (ykc_242 (e := (2, .iload_n kF2, 0)) rfl) rfl rfl ?_
      refine w_load (pc' := 4) (v := .ref 170) (m := 1) (ykc_242 (e := (2, .aload_n kF0, 0)) rfl) rfl rfl ?_
      refine w_gf (pc' := 7) (v := .int (zn P)) (ykc_242 (e := (5, .getfield 130, 0)) rfl) rfl ((hf.1 170 5 (by decide) (by decide)).trans gP) rfl ?_
      refine w_ige (ykc_242 (e := (4, .if_icmp .ge 33, 40)) rfl) rfl (fun b367 => ?_) (fun b367 => ?_)
      · refine w_alu (pc' := 41) (st' := [.int (Int32.ofInt 0)]) (ykc_242 (e := (0, .iconst 0, 0)) rfl) rfl rfl ?_
        refine w_store (pc' := 42) (L' := [some (.ref 170), some (.ref A), some (.int (Int32.ofInt 0)), x3]) (st' := []) (m := 1) (ykc_242 (e := (3, .istore_n kF2, 0)) rfl) rfl rfl ?_
        have ek : P = k := by omega
        subst ek
        exact hl2 n 0 _ ph1 (Nat.zero_le _) hf hlr
      · refine w_load (pc' := 11) (v := .ref 170) (m := 1) (ykc_242 (e := (2, .aload_n kF0, 0)) rfl) rfl rfl ?_
        refine w_gf (pc' := 14) (v := .ref 184) (ykc_242 (e := (5, .getfield 71, 0)) rfl) rfl ((hf.1 170 29 (by decide) (by decide)).trans (zsg hS zs_170_29)) rfl ?_
        refine w_load (pc' := 15) (v := .int (zn k)) (m := 1) (ykc_242 (e := (2, .iload_n kF2, 0)) rfl) rfl rfl ?_
        refine w_load (pc' := 16) (v := .ref A) (m := 1) (ykc_242 (e := (2, .aload_n kF1, 0)) rfl) rfl rfl ?_
        refine w_push (pc' := 18) (v := .int ((Int8.ofInt 24).toInt32)) (m := 2) (ykc_242 (e := (1, .bipush 24, 0)) rfl) rfl rfl ?_
        refine w_load (pc' := 19) (v := .int (zn k)) (m := 1) (ykc_242 (e := (2, .iload_n kF2, 0)) rfl) rfl rfl ?_
        have e368 : ((Int8.ofInt 24).toInt32) + (zn k) = zn (24 + k) := (zaddN (a := 24) (b := k) c_0 (znt (by omega)) (by omega)) 
        have te368 := znt (k := 24 + k) (by omega)
        refine w_alu (pc' := 20) (st' := [.int (zn (24 + k)), .ref A, .int (zn k), .ref 184]) (ykc_242 (e := (0, .iadd, 0)) rfl) (by rw [← e368]; rfl) rfl ?_
        have q369 := hO0.1 k (by omega)
        have tq369 := znt (k := v (24 + k)) (by omega)
        refine w_ialk (pc' := 21) (k := 24 + k) (ykc_242 (e := (5, .iaload, 0)) rfl) ((hf.1 A (24 + k) (by simp <;> omega) (by simp <;> omega)).trans (zNr0 hv (i := 24 + k) (by omega))) (by omega) rfl ?_
        refine w_load (pc' := 22) (v := .ref 170) (m := 1) (ykc_242 (e := (2, .aload_n kF0, 0)) rfl) rfl rfl ?_
        refine w_load (pc' := 23) (v := .ref A) (m := 1) (ykc_242 (e := (2, .aload_n kF1, 0)) rfl) rfl rfl ?_
        refine w_load (pc' := 24) (v := .ref 170) (m := 1) (ykc_242 (e := (2, .aload_n kF0, 0)) rfl) rfl rfl ?_
        refine w_load (pc' := 25) (v := .ref A) (m := 1) (ykc_242 (e := (2, .aload_n kF1, 0)) rfl) rfl rfl ?_
        refine w_load (pc' := 26) (v := .int (zn k)) (m := 1) (ykc_242 (e := (2, .iload_n kF2, 0)) rfl) rfl rfl ?_
        refine w_cv (as := [.ref 170, .ref A, .int (zn k)]) (r := [.ref A, .ref 170, .int (zn (v (24 + k))), .int (zn k), .ref 184]) (ykc_242 (e := (6, .invokevirtual 300, 0)) rfl) rfl rfl rfl rfl (zm_seen (zHs_S hf hS) (zHs_e hf hE0) (zHs_p hf hN0) (zHs_a hf (⟨hA, hv⟩ : (A = 174 ∨ A = 175) ∧ zNr ph A 0 v)).1 (zHs_a hf (⟨hA, hv⟩ : (A = 174 ∨ A = 175) ∧ zNr ph A 0 v)).2 hO0 (p := k) (by omega)) (fun v371 ph372 hv => ?_)
        obtain ⟨f370, rfl⟩ := hv
        show zW n D 242 Q 29 [some (.ref 170), some (.ref A), some (.int (zn k)), x3] [.long (zVw (R, C, rk, sn, sk, cn, cd) P v k), .ref A, .ref 170, .int (zn (v (24 + k))), .int (zn k), .ref 184] ph372
        refine w_cv (as := [.ref 170, .ref A, .long (zVw (R, C, rk, sn, sk, cn, cd) P v k)]) (r := [.int (zn (v (24 + k))), .int (zn k), .ref 184]) (ykc_242 (e := (6, .invokevirtual 323, 0)) rfl) rfl rfl rfl rfl (zm_ton (zHs_S (zFr_trans hf (zHs_sc f370)) hS) (zHs_e (zFr_trans hf (zHs_sc f370)) hE0) (zHs_p (zFr_trans hf (zHs_sc f370)) hN0) (zHs_a (zFr_trans hf (zHs_sc f370)) (⟨hA, hv⟩ : (A = 174 ∨ A = 175) ∧ zNr ph A 0 v)).1 (zHs_a (zFr_trans hf (zHs_sc f370)) (⟨hA, hv⟩ : (A = 174 ∨ A = 175) ∧ zNr ph A 0 v)).2 hO0 (x := zVw (R, C, rk, sn, sk, cn, cd) P v k)) (fun v373 ph374 hv => ?_)
        obtain ⟨rfl, rfl⟩ := hv
        show zW n D 242 Q 32 [some (.ref 170), some (.ref A), some (.int (zn k)), x3] [.int (zTon G v (zVw (R, C, rk, sn, sk, cn, cd) P v k)), .int (zn (v (24 + k))), .int (zn k), .ref 184] ph372
        refine w_alu (pc' := 33) (st' := [.int (zn (zHb (R, C, rk, sn, sk, cn, cd) P G v k)), .int (zn k), .ref 184]) (ykc_242 (e := (0, .ior, 0)) rfl) (by rw [← ((by unfold zTon; rw [zT_N hG8, zor_n (by omega) (zNs_lt hG8)]; rfl) : (zn (v (24 + k))) ||| (zTon G v (zVw (R, C, rk, sn, sk, cn, cd) P v k)) = zn (zHb (R, C, rk, sn, sk, cn, cd) P G v k))]; rfl) rfl ?_
        refine w_ias (pc' := 34) (k := k) (ykc_242 (e := (5, .iastore, 0)) rfl) (by omega) rfl (fun ph376 u375 => ?_)
        have e377 : (zn k) + Int32.ofInt 1 = zn (k + 1) := (zaddN (a := k) (b := 1) (znt (by omega)) c_3 (by omega))
        have te377 := znt (k := k + 1) (by omega)
        refine w_store (pc' := 37) (L' := [some (.ref 170), some (.ref A), some (.int (zn (k + 1))), x3]) (st' := []) (m := 3) (ykc_242 (e := (3, .iinc 2 1, 0)) rfl) (by rw [← e377]; rfl) rfl ?_
        refine w_gb (ykc_242 (e := (4, .goto (-35), 2)) rfl) (fun k378 hk378 => ?_)
        exact ih k378 hk378 (k + 1) _ _ (by omega) (zFr_trans (zFr_trans hf (zHs_sc f370)) (zFr_st u375 (Or.inl (by simp)))) (fun i hi => by
          by_cases e : i = k
          · subst e
            exact u375.1
          · exact (u375.2.1 184 i (fun q => e q.2)).trans ((f370.1 184 i (by decide) (by simp)).trans (hlr i (by omega))))
  refine w_alu (pc' := 1) (st' := [.int (Int32.ofInt 0)]) (ykc_242 (e := (0, .iconst 0, 0)) rfl) rfl rfl ?_
  refine w_store (pc' := 2) (L' := [some (.ref 170), some (.ref A), some (.int (Int32.ofInt 0)), none]) (st' := []) (m := 1) (ykc_242 (e := (3, .istore_n kF2, 0)) rfl) rfl rfl ?_
  exact hl1 n 0 _ ph (Nat.zero_le _) zFr_refl (fun i hi => absurd hi (Nat.not_lt_zero i))
end
section
/-! the reference: rows copied, undone, one act, by W; printed by wip/z/z_g_mwrite.py -/
theorem zm_copies {ph : pm_H} {v : Nat → Nat} (hS : zSh ph) (hv : zNr ph 174 0 v) : zM 256 [.ref 170] ph (fun v0 q => v0 = none ∧ zFr [175] [] ph q ∧ zNr q 175 0 v) := by
  obtain ⟨Q, hQ⟩ : ∃ Q : Option Value → pm_H → Prop, Q = (fun v0 q => v0 = none ∧ zFr [175] [] ph q ∧ zNr q 175 0 v) := ⟨_, rfl⟩
  rw [← hQ]
  refine zM_mk fun n D => ?_
  show zW n D 256 Q 0 [some (.ref 170), none] [] ph
  have c_0 : ((Int8.ofInt 41).toInt32).toInt = 41 := by decide
  have c_1 : (Int32.ofInt 0).toInt = 0 := by decide
  have c_2 : (Int32.ofInt 1).toInt = 1 := by decide
  refine w_alu (pc' := 1) (st' := [.int (Int32.ofInt 0)]) (ykc_256 (e := (0, .iconst 0, 0)) rfl) rfl rfl ?_
  refine w_store (pc' := 2) (L' := [some (.ref 170), some (.int (Int32.ofInt 0))]) (st' := []) (m := 1) (ykc_256 (e := (3, .istore_n kF1, 0)) rfl) rfl rfl ?_
  have hl : ∀ (n : Nat), ∀ (k : Nat) (ph1 : pm_H), (k ≤ 41) → (zFr [175] [] ph ph1) → (∀ i, i < k → zc ph1 175 i = some (.int (zn (v i)))) → zW n D 256 Q 2 [some (.ref 170), some (.int (zn k))] [] ph1 := by
    intro n
    induction n using Nat.strongRecOn with
    | ind n ih =>
      intro k ph1 hk hf hr
      have tk := znt (k := k) (by omega)
      refine w_load (pc' := 3) (v := .int (zn k)) (m := 1) (ykc_256 (e := (2, .iload_n kF1, 0)) rfl) rfl rfl ?_
      refine w_push (pc' := 5) (v := .int ((Int8.ofInt 41).toInt32)) (m := 2) (ykc_256 (e := (1, .bipush 41, 0)) rfl) rfl rfl ?_
      refine w_ige (ykc_256 (e := (4, .if_icmp .ge 21, 26)) rfl) rfl (fun b379 => ?_) (fun b379 => ?_)
      · refine w_ret (v := none) (ykc_256 (e := (7, .return_, 0)) rfl) (zr_v rfl) ?_
        rw [hQ]
        exact ⟨rfl, hf, fun i hi => by rw [Nat.zero_add]; exact hr i (by omega)⟩
      · refine w_load (pc' := 9) (v := .ref 170) (m := 1) (ykc_256 (e := (2, .aload_n kF0, 0)) rfl) rfl rfl ?_
        refine w_gf (pc' := 12) (v := .ref 175) (ykc_256 (e := (5, .getfield 44, 0)) rfl) rfl ((hf.1 170 12 (by decide) (by decide)).trans (zsg hS zs_170_12)) rfl ?_
        refine w_load (pc' := 13) (v := .int (zn k)) (m := 1) (ykc_256 (e := (2, .iload_n kF1, 0)) rfl) rfl rfl ?_
        refine w_load (pc' := 14) (v := .ref 170) (m := 1) (ykc_256 (e := (2, .aload_n kF0, 0)) rfl) rfl rfl ?_
        refine w_gf (pc' := 17) (v := .ref 174) (ykc_256 (e := (5, .getfield 41, 0)) rfl) rfl ((hf.1 170 11 (by decide) (by decide)).trans (zsg hS zs_170_11)) rfl ?_
        refine w_load (pc' := 18) (v := .int (zn k)) (m := 1) (ykc_256 (e := (2, .iload_n kF1, 0)) rfl) rfl rfl ?_
        refine w_ialk (pc' := 19) (k := k) (ykc_256 (e := (5, .iaload, 0)) rfl) ((hf.1 174 k (by decide) (by simp)).trans (zNr0 hv (i := k) (by omega))) (by omega) rfl ?_
        refine w_ias (pc' := 20) (k := k) (ykc_256 (e := (5, .iastore, 0)) rfl) (by omega) rfl (fun ph381 u380 => ?_)
        have e382 : (zn k) + Int32.ofInt 1 = zn (k + 1) := (zaddN (a := k) (b := 1) (znt (by omega)) c_2 (by omega))
        have te382 := znt (k := k + 1) (by omega)
        refine w_store (pc' := 23) (L' := [some (.ref 170), some (.int (zn (k + 1)))]) (st' := []) (m := 3) (ykc_256 (e := (3, .iinc 1 1, 0)) rfl) (by rw [← e382]; rfl) rfl ?_
        refine w_gb (ykc_256 (e := (4, .goto (-21), 2)) rfl) (fun k383 hk383 => ?_)
        exact ih k383 hk383 (k + 1) _ (by omega) (zFr_add hf u380 (Or.inl (by simp))) (fun i hi => by
          by_cases e : i = k
          · subst e
            exact u380.1
          · exact (u380.2.1 175 i (fun q => e q.2)).trans (hr i (by omega)))
  exact hl n 0 ph (by omega) zFr_refl (fun i hi => absurd hi (Nat.not_lt_zero i))
theorem zm_putsBy {ph : pm_H} {v : Nat → Nat} {u : Nat} (hS : zSh ph) (hv : zNr ph 174 0 v) (gu : zc ph 170 27 = some (.int (zn u))) (hu : u ≤ 15) : zM 238 [.ref 170] ph (fun v0 q => v0 = none ∧ zFr [183] [] ph q ∧ zNr q 183 (41 * u) v ∧ ∀ i, i < 41 * u → zc q 183 i = zc ph 183 i) := by
  obtain ⟨Q, hQ⟩ : ∃ Q : Option Value → pm_H → Prop, Q = (fun v0 q => v0 = none ∧ zFr [183] [] ph q ∧ zNr q 183 (41 * u) v ∧ ∀ i, i < 41 * u → zc q 183 i = zc ph 183 i) := ⟨_, rfl⟩
  rw [← hQ]
  refine zM_mk fun n D => ?_
  show zW n D 238 Q 0 [some (.ref 170), none] [] ph
  have c_0 : ((Int8.ofInt 41).toInt32).toInt = 41 := by decide
  have c_1 : (Int32.ofInt 0).toInt = 0 := by decide
  have c_2 : (Int32.ofInt 1).toInt = 1 := by decide
  have tu := znt (k := u) (by omega)
  refine w_alu (pc' := 1) (st' := [.int (Int32.ofInt 0)]) (ykc_238 (e := (0, .iconst 0, 0)) rfl) rfl rfl ?_
  refine w_store (pc' := 2) (L' := [some (.ref 170), some (.int (Int32.ofInt 0))]) (st' := []) (m := 1) (ykc_238 (e := (3, .istore_n kF1, 0)) rfl) rfl rfl ?_
  have hl : ∀ (n : Nat), ∀ (k : Nat) (ph1 : pm_H), (k ≤ 41) → (zFr [183] [] ph ph1) → (∀ i, i < k → zc ph1 183 (41 * u + i) = some (.int (zn (v i)))) → (∀ i, i < 41 * u → zc ph1 183 i = zc ph 183 i) → zW n D 238 Q 2 [some (.ref 170), some (.int (zn k))] [] ph1 := by
    intro n
    induction n using Nat.strongRecOn with
    | ind n ih =>
      intro k ph1 hk hf hr ho
      have tk := znt (k := k) (by omega)
      refine w_load (pc' := 3) (v := .int (zn k)) (m := 1) (ykc_238 (e := (2, .iload_n kF1, 0)) rfl) rfl rfl ?_
      refine w_push (pc' := 5) (v := .int ((Int8.ofInt 41).toInt32)) (m := 2) (ykc_238 (e := (1, .bipush 41, 0)) rfl) rfl rfl ?_
      refine w_ige (ykc_238 (e := (4, .if_icmp .ge 29, 34)) rfl) rfl (fun b384 => ?_) (fun b384 => ?_)
      · refine w_ret (v := none) (ykc_238 (e := (7, .return_, 0)) rfl) (zr_v rfl) ?_
        rw [hQ]
        exact ⟨rfl, hf, fun i hi => hr i (by omega), ho⟩
      · refine w_load (pc' := 9) (v := .ref 170) (m := 1) (ykc_238 (e := (2, .aload_n kF0, 0)) rfl) rfl rfl ?_
        refine w_gf (pc' := 12) (v := .ref 183) (ykc_238 (e := (5, .getfield 68, 0)) rfl) rfl ((hf.1 170 28 (by decide) (by decide)).trans (zsg hS zs_170_28)) rfl ?_
        refine w_push (pc' := 14) (v := .int ((Int8.ofInt 41).toInt32)) (m := 2) (ykc_238 (e := (1, .bipush 41, 0)) rfl) rfl rfl ?_
        refine w_load (pc' := 15) (v := .ref 170) (m := 1) (ykc_238 (e := (2, .aload_n kF0, 0)) rfl) rfl rfl ?_
        refine w_gf (pc' := 18) (v := .int (zn u)) (ykc_238 (e := (5, .getfield 188, 0)) rfl) rfl ((hf.1 170 27 (by decide) (by decide)).trans gu) rfl ?_
        have e385 : ((Int8.ofInt 41).toInt32) * (zn u) = zn (41 * u) := zn_of (by rw [ti_mul (by rw [show ((Int8.ofInt 41).toInt32).toInt = (41 : Int) by omega, show (zn u).toInt = ((u : Nat) : Int) by omega]; omega) (by rw [show ((Int8.ofInt 41).toInt32).toInt = (41 : Int) by omega, show (zn u).toInt = ((u : Nat) : Int) by omega]; omega), show ((Int8.ofInt 41).toInt32).toInt = (41 : Int) by omega, show (zn u).toInt = ((u : Nat) : Int) by omega] <;> omega)
        have te385 := znt (k := 41 * u) (by omega)
        refine w_alu (pc' := 19) (st' := [.int (zn (41 * u)), .ref 183]) (ykc_238 (e := (0, .imul, 0)) rfl) (by rw [← e385]; rfl) rfl ?_
        refine w_load (pc' := 20) (v := .int (zn k)) (m := 1) (ykc_238 (e := (2, .iload_n kF1, 0)) rfl) rfl rfl ?_
        have e386 : (zn (41 * u)) + (zn k) = zn (41 * u + k) := (zaddN (a := 41 * u) (b := k) (znt (by omega)) (znt (by omega)) (by omega)) 
        have te386 := znt (k := 41 * u + k) (by omega)
        refine w_alu (pc' := 21) (st' := [.int (zn (41 * u + k)), .ref 183]) (ykc_238 (e := (0, .iadd, 0)) rfl) (by rw [← e386]; rfl) rfl ?_
        refine w_load (pc' := 22) (v := .ref 170) (m := 1) (ykc_238 (e := (2, .aload_n kF0, 0)) rfl) rfl rfl ?_
        refine w_gf (pc' := 25) (v := .ref 174) (ykc_238 (e := (5, .getfield 41, 0)) rfl) rfl ((hf.1 170 11 (by decide) (by decide)).trans (zsg hS zs_170_11)) rfl ?_
        refine w_load (pc' := 26) (v := .int (zn k)) (m := 1) (ykc_238 (e := (2, .iload_n kF1, 0)) rfl) rfl rfl ?_
        refine w_ialk (pc' := 27) (k := k) (ykc_238 (e := (5, .iaload, 0)) rfl) ((hf.1 174 k (by decide) (by simp)).trans (zNr0 hv (i := k) (by omega))) (by omega) rfl ?_
        refine w_ias (pc' := 28) (k := 41 * u + k) (ykc_238 (e := (5, .iastore, 0)) rfl) (by omega) rfl (fun ph388 u387 => ?_)
        have e389 : (zn k) + Int32.ofInt 1 = zn (k + 1) := (zaddN (a := k) (b := 1) (znt (by omega)) c_2 (by omega))
        have te389 := znt (k := k + 1) (by omega)
        refine w_store (pc' := 31) (L' := [some (.ref 170), some (.int (zn (k + 1)))]) (st' := []) (m := 3) (ykc_238 (e := (3, .iinc 1 1, 0)) rfl) (by rw [← e389]; rfl) rfl ?_
        refine w_gb (ykc_238 (e := (4, .goto (-29), 2)) rfl) (fun k390 hk390 => ?_)
        exact ih k390 hk390 (k + 1) _ (by omega) (zFr_add hf u387 (Or.inl (by simp))) (fun i hi => by
          by_cases e : i = k
          · subst e
            exact u387.1
          · exact (u387.2.1 183 (41 * u + i) (fun q => e (by have q2 := q.2; omega))).trans (hr i (by omega))) (fun i hi => (u387.2.1 183 i (fun q => by have q2 := q.2; omega)).trans (ho i hi))
  exact hl n 0 ph (by omega) zFr_refl (fun i hi => absurd hi (Nat.not_lt_zero i)) (fun i hi => rfl)
/-- the rows that can be undone, u of them -/
def zUr (ph : pm_H) (u : Nat) (w : Nat → Nat → Nat) : Prop := ∀ i, i < u → zNr ph 183 (41 * i) (w i)
theorem zUr_F {A : List Nat} {F : List (Nat × Nat)} {p q : pm_H} {u : Nat} {w : Nat → Nat → Nat} (f : zFr A F p q) (hF : ∀ i, (183, i) ∉ F) (hA : 183 ∉ A) (h : zUr p u w) : zUr q u w := fun i hi => zNr_F f hF hA (h i hi)
/-- one row more: the oldest one is forgotten where there are 15 -/
def zAd (u : Nat) : Nat := if u < 15 then u + 1 else 15
def zAw (u : Nat) (w : Nat → Nat → Nat) (i : Nat) : Nat → Nat := if u < 15 then w i else w (i + 1)
theorem zm_adds {ph : pm_H} {w : Nat → Nat → Nat} {u : Nat} {x : Int32} (hS : zSh ph) (gu : zc ph 170 27 = some (.int (zn u))) (hu : u ≤ 15) (hw : zUr ph (u + 1) w) : zM 239 [.ref 170, .int x] ph (fun v0 q => v0 = some (.int x) ∧ zFr [183] [(170, 27)] ph q ∧ zc q 170 27 = some (.int (zn (zAd u))) ∧ zUr q (zAd u) (zAw u w)) := by
  obtain ⟨Q, hQ⟩ : ∃ Q : Option Value → pm_H → Prop, Q = (fun v0 q => v0 = some (.int x) ∧ zFr [183] [(170, 27)] ph q ∧ zc q 170 27 = some (.int (zn (zAd u))) ∧ zUr q (zAd u) (zAw u w)) := ⟨_, rfl⟩
  rw [← hQ]
  refine zM_mk fun n D => ?_
  show zW n D 239 Q 0 [some (.ref 170), some (.int x), none] [] ph
  have c_0 : ((Int16.ofInt 615).toInt32).toInt = 615 := by decide
  have c_1 : ((Int8.ofInt 15).toInt32).toInt = 15 := by decide
  have c_2 : ((Int8.ofInt 41).toInt32).toInt = 41 := by decide
  have c_3 : (Int32.ofInt 0).toInt = 0 := by decide
  have c_4 : (Int32.ofInt 1).toInt = 1 := by decide
  have tu := znt (k := u) (by omega)
  refine w_load (pc' := 1) (v := .ref 170) (m := 1) (ykc_239 (e := (2, .aload_n kF0, 0)) rfl) rfl rfl ?_
  refine w_alu (pc' := 2) (st' := [.ref 170, .ref 170]) (ykc_239 (e := (0, .dup, 0)) rfl) rfl rfl ?_
  refine w_gf (pc' := 5) (v := .int (zn u)) (ykc_239 (e := (5, .getfield 188, 0)) rfl) rfl gu rfl ?_
  refine w_alu (pc' := 6) (st' := [.int (Int32.ofInt 1), .int (zn u), .ref 170]) (ykc_239 (e := (0, .iconst 1, 0)) rfl) rfl rfl ?_
  have e391 : (zn u) + (Int32.ofInt 1) = zn (u + 1) := (zaddN (a := u) (b := 1) (znt (by omega)) c_4 (by omega)) 
  have te391 := znt (k := u + 1) (by omega)
  refine w_alu (pc' := 7) (st' := [.int (zn (u + 1)), .ref 170]) (ykc_239 (e := (0, .iadd, 0)) rfl) (by rw [← e391]; rfl) rfl ?_
  refine w_pf (pc' := 10) (ykc_239 (e := (5, .putfield 188, 0)) rfl) rfl rfl (fun ph393 u392 => ?_)
  refine w_load (pc' := 11) (v := .ref 170) (m := 1) (ykc_239 (e := (2, .aload_n kF0, 0)) rfl) rfl rfl ?_
  refine w_gf (pc' := 14) (v := .int (zn (u + 1))) (ykc_239 (e := (5, .getfield 188, 0)) rfl) rfl u392.1 rfl ?_
  refine w_push (pc' := 16) (v := .int ((Int8.ofInt 15).toInt32)) (m := 2) (ykc_239 (e := (1, .bipush 15, 0)) rfl) rfl rfl ?_
  have hrow : ∀ i, i < 41 * (u + 1) → zc ph 183 i = some (.int (zn (w (i / 41) (i % 41)))) := fun i hi => by
    have h := hw (i / 41) (by omega) (i % 41) (by omega)
    rwa [show 41 * (i / 41) + i % 41 = i by omega] at h
  have hl : ∀ (n : Nat), ∀ (k : Nat) (ph1 : pm_H), (u = 15) → (k ≤ 615) → (zFr [183] [(170, 27)] ph ph1) → (zc ph1 170 27 = some (.int (zn (u + 1)))) → (∀ i, i < k → zc ph1 183 i = some (.int (zn (w (i / 41 + 1) (i % 41))))) → (∀ i, k ≤ i → zc ph1 183 i = zc ph 183 i) → zW n D 239 Q 21 [some (.ref 170), some (.int x), some (.int (zn k))] [] ph1 := by
    intro n
    induction n using Nat.strongRecOn with
    | ind n ih =>
      intro k ph1 hu15 hk hf h27 hn ho
      have hS0 := hS
      have hS : zSh ph1 := zSh_F hf (by decide +kernel) hS0
      have tk := znt (k := k) (by omega)
      have tu1 := znt (k := u + 1) (by omega)
      refine w_load (pc' := 22) (v := .int (zn k)) (m := 1) (ykc_239 (e := (2, .iload_n kF2, 0)) rfl) rfl rfl ?_
      refine w_push (pc' := 25) (v := .int ((Int16.ofInt 615).toInt32)) (m := 3) (ykc_239 (e := (1, .sipush 615, 0)) rfl) rfl rfl ?_
      refine w_ige (ykc_239 (e := (4, .if_icmp .ge 24, 49)) rfl) rfl (fun b394 => ?_) (fun b394 => ?_)
      · refine w_load (pc' := 50) (v := .ref 170) (m := 1) (ykc_239 (e := (2, .aload_n kF0, 0)) rfl) rfl rfl ?_
        refine w_alu (pc' := 51) (st' := [.ref 170, .ref 170]) (ykc_239 (e := (0, .dup, 0)) rfl) rfl rfl ?_
        refine w_gf (pc' := 54) (v := .int (zn (u + 1))) (ykc_239 (e := (5, .getfield 188, 0)) rfl) rfl h27 rfl ?_
        refine w_alu (pc' := 55) (st' := [.int (Int32.ofInt 1), .int (zn (u + 1)), .ref 170]) (ykc_239 (e := (0, .iconst 1, 0)) rfl) rfl rfl ?_
        have e395 : (zn (u + 1)) - (Int32.ofInt 1) = zn (u) := zn_of (by have := ti_sub (x := (zn (u + 1))) (y := (Int32.ofInt 1)) (by omega) (by omega); omega)
        have te395 := znt (k := u) (by omega)
        refine w_alu (pc' := 56) (st' := [.int (zn (u)), .ref 170]) (ykc_239 (e := (0, .isub, 0)) rfl) (by rw [← e395]; rfl) rfl ?_
        refine w_pf (pc' := 59) (ykc_239 (e := (5, .putfield 188, 0)) rfl) rfl rfl (fun ph397 u396 => ?_)
        refine w_load (pc' := 60) (v := .int x) (m := 1) (ykc_239 (e := (2, .iload_n kF1, 0)) rfl) rfl rfl ?_
        refine w_ret (v := (some (.int x))) (ykc_239 (e := (7, .ireturn, 0)) rfl) (zr_v rfl) ?_
        rw [hQ]
        have hnl : ¬ u < 15 := by omega
        refine ⟨rfl, zFr_trans hf (zFr_st u396 (Or.inr (by simp))), ?_, fun i hi => ?_⟩
        · unfold zAd; rw [if_neg hnl, show (15 : Nat) = u by omega]; exact u396.1
        · unfold zAd at hi
          rw [if_neg hnl] at hi
          unfold zAw
          rw [if_neg hnl]
          intro j hj
          refine (u396.2.1 183 (41 * i + j) (fun q => absurd q.1 (by decide))).trans ((hn (41 * i + j) (by omega)).trans ?_)
          rw [show (41 * i + j) / 41 = i by omega, show (41 * i + j) % 41 = j by omega]
      · refine w_load (pc' := 29) (v := .ref 170) (m := 1) (ykc_239 (e := (2, .aload_n kF0, 0)) rfl) rfl rfl ?_
        refine w_gf (pc' := 32) (v := .ref 183) (ykc_239 (e := (5, .getfield 68, 0)) rfl) rfl (zsg hS zs_170_28) rfl ?_
        refine w_load (pc' := 33) (v := .int (zn k)) (m := 1) (ykc_239 (e := (2, .iload_n kF2, 0)) rfl) rfl rfl ?_
        refine w_load (pc' := 34) (v := .ref 170) (m := 1) (ykc_239 (e := (2, .aload_n kF0, 0)) rfl) rfl rfl ?_
        refine w_gf (pc' := 37) (v := .ref 183) (ykc_239 (e := (5, .getfield 68, 0)) rfl) rfl (zsg hS zs_170_28) rfl ?_
        refine w_load (pc' := 38) (v := .int (zn k)) (m := 1) (ykc_239 (e := (2, .iload_n kF2, 0)) rfl) rfl rfl ?_
        refine w_push (pc' := 40) (v := .int ((Int8.ofInt 41).toInt32)) (m := 2) (ykc_239 (e := (1, .bipush 41, 0)) rfl) rfl rfl ?_
        have e398 : (zn k) + ((Int8.ofInt 41).toInt32) = zn (k + 41) := (zaddN (a := k) (b := 41) (znt (by omega)) c_2 (by omega)) 
        have te398 := znt (k := k + 41) (by omega)
        refine w_alu (pc' := 41) (st' := [.int (zn (k + 41)), .ref 183, .int (zn k), .ref 183]) (ykc_239 (e := (0, .iadd, 0)) rfl) (by rw [← e398]; rfl) rfl ?_
        refine w_ialk (pc' := 42) (k := k + 41) (ykc_239 (e := (5, .iaload, 0)) rfl) (by have h := (ho (k + 41) (by omega)).trans (hrow (k + 41) (by omega)); rwa [show (k + 41) / 41 = k / 41 + 1 by omega, show (k + 41) % 41 = k % 41 by omega] at h) (by omega) rfl ?_
        refine w_ias (pc' := 43) (k := k) (ykc_239 (e := (5, .iastore, 0)) rfl) (by omega) rfl (fun ph400 u399 => ?_)
        have e401 : (zn k) + Int32.ofInt 1 = zn (k + 1) := (zaddN (a := k) (b := 1) (znt (by omega)) c_4 (by omega))
        have te401 := znt (k := k + 1) (by omega)
        refine w_store (pc' := 46) (L' := [some (.ref 170), some (.int x), some (.int (zn (k + 1)))]) (st' := []) (m := 3) (ykc_239 (e := (3, .iinc 2 1, 0)) rfl) (by rw [← e401]; rfl) rfl ?_
        refine w_gb (ykc_239 (e := (4, .goto (-25), 21)) rfl) (fun k402 hk402 => ?_)
        exact ih k402 hk402 (k + 1) _ hu15 (by omega) (zFr_add hf u399 (Or.inl (by simp))) ((u399.2.1 170 27 (fun q => absurd q.1 (by decide))).trans h27) (fun i hi => by
          by_cases e : i = k
          · subst e
            exact u399.1
          · exact (u399.2.1 183 i (fun q => e q.2)).trans (hn i (by omega))) (fun i hi => (u399.2.1 183 i (fun q => by have q2 := q.2; omega)).trans (ho i (by omega)))
  refine w_ile (ykc_239 (e := (4, .if_icmp .le 43, 59)) rfl) rfl (fun b403 => ?_) (fun b403 => ?_)
  · refine w_load (pc' := 60) (v := .int x) (m := 1) (ykc_239 (e := (2, .iload_n kF1, 0)) rfl) rfl rfl ?_
    refine w_ret (v := (some (.int x))) (ykc_239 (e := (7, .ireturn, 0)) rfl) (zr_v rfl) ?_
    rw [hQ]
    have hlt : u < 15 := by omega
    refine ⟨rfl, zFr_st u392 (Or.inr (by simp)), ?_, fun i hi => ?_⟩
    · unfold zAd; rw [if_pos hlt]; exact u392.1
    · unfold zAd at hi
      rw [if_pos hlt] at hi
      unfold zAw
      rw [if_pos hlt]
      exact zNr_F (A := []) (F := [(170, 27)]) (zFr_st u392 (Or.inr (by simp))) (by simp) (by simp) (hw i hi)
  · refine w_alu (pc' := 20) (st' := [.int (Int32.ofInt 0)]) (ykc_239 (e := (0, .iconst 0, 0)) rfl) rfl rfl ?_
    refine w_store (pc' := 21) (L' := [some (.ref 170), some (.int x), some (.int (Int32.ofInt 0))]) (st' := []) (m := 1) (ykc_239 (e := (3, .istore_n kF2, 0)) rfl) rfl rfl ?_
    exact hl n 0 ph393 (by omega) (by omega) (zFr_st u392 (Or.inr (by simp))) u392.1 (fun i hi => absurd hi (Nat.not_lt_zero i)) (fun i _ => u392.2.1 183 i (fun q => absurd q.1 (by decide)))
end
section
/-! steps and acts, the reference, by W; printed by wip/z/z_h_geo.py -/
/-- rows down, columns to the right, by a way -/
def zdn (w : Nat) : Int := if w = 7 ∨ w < 2 then -1 else if 2 < w ∧ w < 6 then 1 else 0
def zrg (w : Nat) : Int := if 0 < w ∧ w < 4 then 1 else if 4 < w then -1 else 0
theorem zdn_b {w : Nat} : -1 ≤ zdn w ∧ zdn w ≤ 1 := by
  unfold zdn
  (repeat' split) <;> omega
theorem zrt_b {w : Nat} : -1 ≤ zrg w ∧ zrg w ≤ 1 := by
  unfold zrg
  (repeat' split) <;> omega
/-- the FIELD a step leads to, or -1 -/
def zin (R C f w : Nat) : Bool := decide (0 ≤ ((f / C : Nat) : Int) + zdn w ∧ ((f / C : Nat) : Int) + zdn w < (R : Int) ∧ 0 ≤ ((f % C : Nat) : Int) + zrg w ∧ ((f % C : Nat) : Int) + zrg w < (C : Int))
def zto (C f w : Nat) : Nat := C * (((f / C : Nat) : Int) + zdn w).toNat + (((f % C : Nat) : Int) + zrg w).toNat
def zbf (R C f w : Nat) : Int := if zin R C f w = true then (zto C f w : Int) else -1
theorem zto_lt {R C f w : Nat} (h : zin R C f w = true) : zto C f w < R * C := by
  have h := of_decide_eq_true h
  have h1 : (((f / C : Nat) : Int) + zdn w).toNat + 1 ≤ R := by omega
  have h2 : (((f % C : Nat) : Int) + zrg w).toNat < C := by omega
  have h3 : C * ((((f / C : Nat) : Int) + zdn w).toNat + 1) ≤ C * R := Nat.mul_le_mul_left C h1
  rw [Nat.mul_add, Nat.mul_comm C R] at h3
  unfold zto
  omega
theorem zbf_b {R C f w : Nat} : -1 ≤ zbf R C f w ∧ zbf R C f w < ((R * C : Nat) : Int) ∨ R * C = 0 := by
  unfold zbf
  split
  · next h => have := zto_lt h; omega
  · omega
theorem zm_beside {ph : pm_H} {R C : Nat} {rk : Nat → Bool} (hS : zSh ph) (hL : zMl ph R C rk) {f w : Nat} (hf : f < R * C) (hw : w < 8) : zM 192 [.ref 170, .int (zn f), .int (zn w)] ph (fun v0 q => ph = q ∧ ∃ z : Int32, v0 = some (.int z) ∧ z.toInt = zbf R C f w) := by
  obtain ⟨Q, hQ⟩ : ∃ Q : Option Value → pm_H → Prop, Q = (fun v0 q => ph = q ∧ ∃ z : Int32, v0 = some (.int z) ∧ z.toInt = zbf R C f w) := ⟨_, rfl⟩
  rw [← hQ]
  refine zM_mk fun n D => ?_
  show zW n D 192 Q 0 [some (.ref 170), some (.int (zn f)), some (.int (zn w)), none, none] [] ph
  have c_0 : ((Int8.ofInt 6).toInt32).toInt = 6 := by decide
  have c_1 : ((Int8.ofInt 7).toInt32).toInt = 7 := by decide
  have c_2 : (Int32.ofInt (-1)).toInt = -1 := by decide
  have c_3 : (Int32.ofInt 0).toInt = 0 := by decide
  have c_4 : (Int32.ofInt 1).toInt = 1 := by decide
  have c_5 : (Int32.ofInt 2).toInt = 2 := by decide
  have c_6 : (Int32.ofInt 4).toInt = 4 := by decide
  have hS0 := hS
  have hL0 := hL
  obtain ⟨gR, gC, gK, hR3, hR7, hC3, hC7⟩ := hL
  have hRC := zRC49 hR7 hC7
  have tR := znt (k := R) (by omega)
  have tC := znt (k := C) (by omega)
  have tf := znt (k := f) (by omega)
  have tw := znt (k := w) (by omega)
  have a1 : f / C < R := (Nat.div_lt_iff_lt_mul (by omega)).mpr hf
  have a2 := Nat.mod_lt f (show 0 < C by omega)
  have p1 := Nat.zero_le (f / C)
  have p2 := Nat.zero_le (f % C)
  have d1 := @zdn_b w
  have d2 := @zrt_b w
  refine w_load (pc' := 1) (v := .int (zn f)) (m := 1) (ykc_192 (e := (2, .iload_n kF1, 0)) rfl) rfl rfl ?_
  refine w_load (pc' := 2) (v := .ref 170) (m := 1) (ykc_192 (e := (2, .aload_n kF0, 0)) rfl) rfl rfl ?_
  refine w_gf (pc' := 5) (v := .int (zn C)) (ykc_192 (e := (5, .getfield 27, 0)) rfl) rfl gC rfl ?_
  refine w_idiv (pc' := 6) (ykc_192 (e := (0, .idiv, 0)) rfl) rfl (fun d404 => ?_)
  have e405 : (zn f) / (zn C) = zn (f / C) := zn_of (zdivN (by omega) (by omega) (by omega))
  have te405 := znt (k := f / C) (by omega)
  rw [e405]
  show zW n D 192 Q 6 [some (.ref 170), some (.int (zn f)), some (.int (zn w)), none, none] [.int (zn (f / C))] ph
  refine w_load (pc' := 7) (v := .int (zn w)) (m := 1) (ykc_192 (e := (2, .iload_n kF2, 0)) rfl) rfl rfl ?_
  refine w_push (pc' := 9) (v := .int ((Int8.ofInt 7).toInt32)) (m := 2) (ykc_192 (e := (1, .bipush 7, 0)) rfl) rfl rfl ?_
  suffices j407 : ∀ y_ : Int32, (y_.toInt = zdn w) → zW n D 192 Q 37 [some (.ref 170), some (.int (zn f)), some (.int (zn w)), none, none] [.int y_, .int (zn (f / C))] ph by
    refine w_ieq (ykc_192 (e := (4, .if_icmp .eq 8, 17)) rfl) rfl (fun b408 => ?_) (fun b408 => ?_)
    · refine w_alu (pc' := 18) (st' := [.int (Int32.ofInt (-1)), .int (zn (f / C))]) (ykc_192 (e := (0, .iconst (-1), 0)) rfl) rfl rfl ?_
      refine w_br (pc' := 37) (st' := [.int (Int32.ofInt (-1)), .int (zn (f / C))]) (ykc_192 (e := (4, .goto 19, 37)) rfl) rfl ?_
      exact j407 (Int32.ofInt (-1)) (by unfold zdn; (repeat' split) <;> omega)
    · refine w_load (pc' := 13) (v := .int (zn w)) (m := 1) (ykc_192 (e := (2, .iload_n kF2, 0)) rfl) rfl rfl ?_
      refine w_alu (pc' := 14) (st' := [.int (Int32.ofInt 2), .int (zn w), .int (zn (f / C))]) (ykc_192 (e := (0, .iconst 2, 0)) rfl) rfl rfl ?_
      refine w_ige (ykc_192 (e := (4, .if_icmp .ge 7, 21)) rfl) rfl (fun b409 => ?_) (fun b409 => ?_)
      · refine w_load (pc' := 22) (v := .int (zn w)) (m := 1) (ykc_192 (e := (2, .iload_n kF2, 0)) rfl) rfl rfl ?_
        refine w_alu (pc' := 23) (st' := [.int (Int32.ofInt 2), .int (zn w), .int (zn (f / C))]) (ykc_192 (e := (0, .iconst 2, 0)) rfl) rfl rfl ?_
        refine w_ile (ykc_192 (e := (4, .if_icmp .le 13, 36)) rfl) rfl (fun b410 => ?_) (fun b410 => ?_)
        · refine w_alu (pc' := 37) (st' := [.int (Int32.ofInt 0), .int (zn (f / C))]) (ykc_192 (e := (0, .iconst 0, 0)) rfl) rfl rfl ?_
          exact j407 (Int32.ofInt 0) (by unfold zdn; (repeat' split) <;> omega)
        · refine w_load (pc' := 27) (v := .int (zn w)) (m := 1) (ykc_192 (e := (2, .iload_n kF2, 0)) rfl) rfl rfl ?_
          refine w_push (pc' := 29) (v := .int ((Int8.ofInt 6).toInt32)) (m := 2) (ykc_192 (e := (1, .bipush 6, 0)) rfl) rfl rfl ?_
          refine w_ige (ykc_192 (e := (4, .if_icmp .ge 7, 36)) rfl) rfl (fun b411 => ?_) (fun b411 => ?_)
          · refine w_alu (pc' := 37) (st' := [.int (Int32.ofInt 0), .int (zn (f / C))]) (ykc_192 (e := (0, .iconst 0, 0)) rfl) rfl rfl ?_
            exact j407 (Int32.ofInt 0) (by unfold zdn; (repeat' split) <;> omega)
          · refine w_alu (pc' := 33) (st' := [.int (Int32.ofInt 1), .int (zn (f / C))]) (ykc_192 (e := (0, .iconst 1, 0)) rfl) rfl rfl ?_
            refine w_br (pc' := 37) (st' := [.int (Int32.ofInt 1), .int (zn (f / C))]) (ykc_192 (e := (4, .goto 4, 37)) rfl) rfl ?_
            exact j407 (Int32.ofInt 1) (by unfold zdn; (repeat' split) <;> omega)
      · refine w_alu (pc' := 18) (st' := [.int (Int32.ofInt (-1)), .int (zn (f / C))]) (ykc_192 (e := (0, .iconst (-1), 0)) rfl) rfl rfl ?_
        refine w_br (pc' := 37) (st' := [.int (Int32.ofInt (-1)), .int (zn (f / C))]) (ykc_192 (e := (4, .goto 19, 37)) rfl) rfl ?_
        exact j407 (Int32.ofInt (-1)) (by unfold zdn; (repeat' split) <;> omega)
  intro y406 h_y406
  show zW n D 192 Q 37 [some (.ref 170), some (.int (zn f)), some (.int (zn w)), none, none] [.int y406, .int (zn (f / C))] ph
  obtain ⟨z412, e_z412, h_z412⟩ : ∃ zq : Int32, (zn (f / C)) + y406 = zq ∧ zq.toInt = ((f / C : Nat) : Int) + (zdn w) := ⟨_, rfl, (by have := ti_add (x := (zn (f / C))) (y := y406) (by omega) (by omega); omega)⟩
  refine w_alu (pc' := 38) (st' := [.int z412]) (ykc_192 (e := (0, .iadd, 0)) rfl) (by rw [← e_z412]; rfl) rfl ?_
  refine w_store (pc' := 39) (L' := [some (.ref 170), some (.int (zn f)), some (.int (zn w)), some (.int z412), none]) (st' := []) (m := 1) (ykc_192 (e := (3, .istore_n kF3, 0)) rfl) rfl rfl ?_
  refine w_load (pc' := 40) (v := .int (zn f)) (m := 1) (ykc_192 (e := (2, .iload_n kF1, 0)) rfl) rfl rfl ?_
  refine w_load (pc' := 41) (v := .ref 170) (m := 1) (ykc_192 (e := (2, .aload_n kF0, 0)) rfl) rfl rfl ?_
  refine w_gf (pc' := 44) (v := .int (zn C)) (ykc_192 (e := (5, .getfield 27, 0)) rfl) rfl gC rfl ?_
  refine w_irem (pc' := 45) (ykc_192 (e := (0, .irem, 0)) rfl) rfl (fun d413 => ?_)
  have e414 : (zn f) - (zn f) / (zn C) * (zn C) = zn (f % C) := zn_of (zremN (by omega) (by omega) (by omega))
  have te414 := znt (k := f % C) (by omega)
  rw [e414]
  show zW n D 192 Q 45 [some (.ref 170), some (.int (zn f)), some (.int (zn w)), some (.int z412), none] [.int (zn (f % C))] ph
  refine w_load (pc' := 46) (v := .int (zn w)) (m := 1) (ykc_192 (e := (2, .iload_n kF2, 0)) rfl) rfl rfl ?_
  suffices j416 : ∀ y_ : Int32, (y_.toInt = zrg w) → zW n D 192 Q 68 [some (.ref 170), some (.int (zn f)), some (.int (zn w)), some (.int z412), none] [.int y_, .int (zn (f % C))] ph by
    refine w_zle (ykc_192 (e := (4, .ifCond .le 12, 58)) rfl) rfl (fun b417 => ?_) (fun b417 => ?_)
    · refine w_load (pc' := 59) (v := .int (zn w)) (m := 1) (ykc_192 (e := (2, .iload_n kF2, 0)) rfl) rfl rfl ?_
      refine w_alu (pc' := 60) (st' := [.int (Int32.ofInt 4), .int (zn w), .int (zn (f % C))]) (ykc_192 (e := (0, .iconst 4, 0)) rfl) rfl rfl ?_
      refine w_ile (ykc_192 (e := (4, .if_icmp .le 7, 67)) rfl) rfl (fun b418 => ?_) (fun b418 => ?_)
      · refine w_alu (pc' := 68) (st' := [.int (Int32.ofInt 0), .int (zn (f % C))]) (ykc_192 (e := (0, .iconst 0, 0)) rfl) rfl rfl ?_
        exact j416 (Int32.ofInt 0) (by unfold zrg; (repeat' split) <;> omega)
      · refine w_alu (pc' := 64) (st' := [.int (Int32.ofInt (-1)), .int (zn (f % C))]) (ykc_192 (e := (0, .iconst (-1), 0)) rfl) rfl rfl ?_
        refine w_br (pc' := 68) (st' := [.int (Int32.ofInt (-1)), .int (zn (f % C))]) (ykc_192 (e := (4, .goto 4, 68)) rfl) rfl ?_
        exact j416 (Int32.ofInt (-1)) (by unfold zrg; (repeat' split) <;> omega)
    · refine w_load (pc' := 50) (v := .int (zn w)) (m := 1) (ykc_192 (e := (2, .iload_n kF2, 0)) rfl) rfl rfl ?_
      refine w_alu (pc' := 51) (st' := [.int (Int32.ofInt 4), .int (zn w), .int (zn (f % C))]) (ykc_192 (e := (0, .iconst 4, 0)) rfl) rfl rfl ?_
      refine w_ige (ykc_192 (e := (4, .if_icmp .ge 7, 58)) rfl) rfl (fun b419 => ?_) (fun b419 => ?_)
      · refine w_load (pc' := 59) (v := .int (zn w)) (m := 1) (ykc_192 (e := (2, .iload_n kF2, 0)) rfl) rfl rfl ?_
        refine w_alu (pc' := 60) (st' := [.int (Int32.ofInt 4), .int (zn w), .int (zn (f % C))]) (ykc_192 (e := (0, .iconst 4, 0)) rfl) rfl rfl ?_
        refine w_ile (ykc_192 (e := (4, .if_icmp .le 7, 67)) rfl) rfl (fun b420 => ?_) (fun b420 => ?_)
        · refine w_alu (pc' := 68) (st' := [.int (Int32.ofInt 0), .int (zn (f % C))]) (ykc_192 (e := (0, .iconst 0, 0)) rfl) rfl rfl ?_
          exact j416 (Int32.ofInt 0) (by unfold zrg; (repeat' split) <;> omega)
        · refine w_alu (pc' := 64) (st' := [.int (Int32.ofInt (-1)), .int (zn (f % C))]) (ykc_192 (e := (0, .iconst (-1), 0)) rfl) rfl rfl ?_
          refine w_br (pc' := 68) (st' := [.int (Int32.ofInt (-1)), .int (zn (f % C))]) (ykc_192 (e := (4, .goto 4, 68)) rfl) rfl ?_
          exact j416 (Int32.ofInt (-1)) (by unfold zrg; (repeat' split) <;> omega)
      · refine w_alu (pc' := 55) (st' := [.int (Int32.ofInt 1), .int (zn (f % C))]) (ykc_192 (e := (0, .iconst 1, 0)) rfl) rfl rfl ?_
        refine w_br (pc' := 68) (st' := [.int (Int32.ofInt 1), .int (zn (f % C))]) (ykc_192 (e := (4, .goto 13, 68)) rfl) rfl ?_
        exact j416 (Int32.ofInt 1) (by unfold zrg; (repeat' split) <;> omega)
  intro y415 h_y415
  show zW n D 192 Q 68 [some (.ref 170), some (.int (zn f)), some (.int (zn w)), some (.int z412), none] [.int y415, .int (zn (f % C))] ph
  obtain ⟨z421, e_z421, h_z421⟩ : ∃ zq : Int32, (zn (f % C)) + y415 = zq ∧ zq.toInt = ((f % C : Nat) : Int) + (zrg w) := ⟨_, rfl, (by have := ti_add (x := (zn (f % C))) (y := y415) (by omega) (by omega); omega)⟩
  refine w_alu (pc' := 69) (st' := [.int z421]) (ykc_192 (e := (0, .iadd, 0)) rfl) (by rw [← e_z421]; rfl) rfl ?_
  refine w_store (pc' := 71) (L' := [some (.ref 170), some (.int (zn f)), some (.int (zn w)), some (.int z412), some (.int z421)]) (st' := []) (m := 2) (ykc_192 (e := (3, .istore 4, 0)) rfl) rfl rfl ?_
  refine w_load (pc' := 72) (v := .int z412) (m := 1) (ykc_192 (e := (2, .iload_n kF3, 0)) rfl) rfl rfl ?_
  refine w_alu (pc' := 73) (st' := [.long z412.toInt64]) (ykc_192 (e := (0, .i2l, 0)) rfl) rfl rfl ?_
  refine w_alu (pc' := 74) (st' := [.long (Int64.ofNat kG0), .long z412.toInt64]) (ykc_192 (e := (0, .lconst kG0, 0)) rfl) rfl rfl ?_
  refine w_load (pc' := 75) (v := .ref 170) (m := 1) (ykc_192 (e := (2, .aload_n kF0, 0)) rfl) rfl rfl ?_
  refine w_gf (pc' := 78) (v := .int (zn R)) (ykc_192 (e := (5, .getfield 24, 0)) rfl) rfl gR rfl ?_
  refine w_alu (pc' := 79) (st' := [.int (Int32.ofInt 1), .int (zn R), .long (Int64.ofNat kG0), .long z412.toInt64]) (ykc_192 (e := (0, .iconst 1, 0)) rfl) rfl rfl ?_
  obtain ⟨z422, e_z422, h_z422⟩ : ∃ zq : Int32, (zn R) - (Int32.ofInt 1) = zq ∧ zq.toInt = ((R : Nat) : Int) - (1 : Int) := ⟨_, rfl, (by have := ti_sub (x := (zn R)) (y := (Int32.ofInt 1)) (by omega) (by omega); omega)⟩
  refine w_alu (pc' := 80) (st' := [.int z422, .long (Int64.ofNat kG0), .long z412.toInt64]) (ykc_192 (e := (0, .isub, 0)) rfl) (by rw [← e_z422]; rfl) rfl ?_
  refine w_alu (pc' := 81) (st' := [.long z422.toInt64, .long (Int64.ofNat kG0), .long z412.toInt64]) (ykc_192 (e := (0, .i2l, 0)) rfl) rfl rfl ?_
  refine w_cs (as := [.long z412.toInt64, .long (Int64.ofNat kG0), .long z422.toInt64]) (r := []) (ykc_192 (e := (6, .invokestatic 126, 0)) rfl) rfl rfl rfl rfl (zm_in (x := ((f / C : Nat) : Int) + (zdn w)) (y := (0 : Int)) (z := ((R : Nat) : Int) - (1 : Int)) (by first | exact ztl | (rw [ztl]; omega) | decide | omega) (by first | exact ztl | (rw [ztl]; omega) | decide | omega) (by first | exact ztl | (rw [ztl]; omega) | decide | omega)) (fun v423 ph424 hv => ?_)
  obtain ⟨rfl, rfl⟩ := hv
  show zW n D 192 Q 84 [some (.ref 170), some (.int (zn f)), some (.int (zn w)), some (.int z412), some (.int z421)] [.int (zI (decide ((0 : Int) ≤ ((f / C : Nat) : Int) + (zdn w) ∧ ((f / C : Nat) : Int) + (zdn w) ≤ ((R : Nat) : Int) - (1 : Int))))] ph
  refine w_beq (ykc_192 (e := (4, .ifCond .eq 32, 116)) rfl) rfl (fun b425 => ?_) (fun b425 => ?_)
  · refine w_alu (pc' := 117) (st' := [.int (Int32.ofInt (-1))]) (ykc_192 (e := (0, .iconst (-1), 0)) rfl) rfl rfl ?_
    refine w_ret (v := (some (.int (Int32.ofInt (-1))))) (ykc_192 (e := (7, .ireturn, 0)) rfl) (zr_v rfl) ?_
    rw [hQ]
    have hi : ¬ zin R C f w = true := fun q => by
      have q := of_decide_eq_true q
      have b1 := of_decide_eq_false b425
      omega
    exact ⟨rfl, _, rfl, by unfold zbf; rw [if_neg hi]; omega⟩
  · refine w_load (pc' := 89) (v := .int z421) (m := 2) (ykc_192 (e := (2, .iload 4, 0)) rfl) rfl rfl ?_
    refine w_alu (pc' := 90) (st' := [.long z421.toInt64]) (ykc_192 (e := (0, .i2l, 0)) rfl) rfl rfl ?_
    refine w_alu (pc' := 91) (st' := [.long (Int64.ofNat kG0), .long z421.toInt64]) (ykc_192 (e := (0, .lconst kG0, 0)) rfl) rfl rfl ?_
    refine w_load (pc' := 92) (v := .ref 170) (m := 1) (ykc_192 (e := (2, .aload_n kF0, 0)) rfl) rfl rfl ?_
    refine w_gf (pc' := 95) (v := .int (zn C)) (ykc_192 (e := (5, .getfield 27, 0)) rfl) rfl gC rfl ?_
    refine w_alu (pc' := 96) (st' := [.int (Int32.ofInt 1), .int (zn C), .long (Int64.ofNat kG0), .long z421.toInt64]) (ykc_192 (e := (0, .iconst 1, 0)) rfl) rfl rfl ?_
    obtain ⟨z426, e_z426, h_z426⟩ : ∃ zq : Int32, (zn C) - (Int32.ofInt 1) = zq ∧ zq.toInt = ((C : Nat) : Int) - (1 : Int) := ⟨_, rfl, (by have := ti_sub (x := (zn C)) (y := (Int32.ofInt 1)) (by omega) (by omega); omega)⟩
    refine w_alu (pc' := 97) (st' := [.int z426, .long (Int64.ofNat kG0), .long z421.toInt64]) (ykc_192 (e := (0, .isub, 0)) rfl) (by rw [← e_z426]; rfl) rfl ?_
    refine w_alu (pc' := 98) (st' := [.long z426.toInt64, .long (Int64.ofNat kG0), .long z421.toInt64]) (ykc_192 (e := (0, .i2l, 0)) rfl) rfl rfl ?_
    refine w_cs (as := [.long z421.toInt64, .long (Int64.ofNat kG0), .long z426.toInt64]) (r := []) (ykc_192 (e := (6, .invokestatic 126, 0)) rfl) rfl rfl rfl rfl (zm_in (x := ((f % C : Nat) : Int) + (zrg w)) (y := (0 : Int)) (z := ((C : Nat) : Int) - (1 : Int)) (by first | exact ztl | (rw [ztl]; omega) | decide | omega) (by first | exact ztl | (rw [ztl]; omega) | decide | omega) (by first | exact ztl | (rw [ztl]; omega) | decide | omega)) (fun v427 ph428 hv => ?_)
    obtain ⟨rfl, rfl⟩ := hv
    show zW n D 192 Q 101 [some (.ref 170), some (.int (zn f)), some (.int (zn w)), some (.int z412), some (.int z421)] [.int (zI (decide ((0 : Int) ≤ ((f % C : Nat) : Int) + (zrg w) ∧ ((f % C : Nat) : Int) + (zrg w) ≤ ((C : Nat) : Int) - (1 : Int))))] ph
    refine w_beq (ykc_192 (e := (4, .ifCond .eq 15, 116)) rfl) rfl (fun b429 => ?_) (fun b429 => ?_)
    · refine w_alu (pc' := 117) (st' := [.int (Int32.ofInt (-1))]) (ykc_192 (e := (0, .iconst (-1), 0)) rfl) rfl rfl ?_
      refine w_ret (v := (some (.int (Int32.ofInt (-1))))) (ykc_192 (e := (7, .ireturn, 0)) rfl) (zr_v rfl) ?_
      rw [hQ]
      have hi : ¬ zin R C f w = true := fun q => by
        have q := of_decide_eq_true q
        have b1 := of_decide_eq_false b429
        omega
      exact ⟨rfl, _, rfl, by unfold zbf; rw [if_neg hi]; omega⟩
    · have b1 := of_decide_eq_true b425
      have b2 := of_decide_eq_true b429
      refine w_load (pc' := 105) (v := .ref 170) (m := 1) (ykc_192 (e := (2, .aload_n kF0, 0)) rfl) rfl rfl ?_
      refine w_gf (pc' := 108) (v := .int (zn C)) (ykc_192 (e := (5, .getfield 27, 0)) rfl) rfl gC rfl ?_
      refine w_load (pc' := 109) (v := .int z412) (m := 1) (ykc_192 (e := (2, .iload_n kF3, 0)) rfl) rfl rfl ?_
      have m430 : C * (((f / C : Nat) : Int) + zdn w).toNat ≤ 7 * 7 := Nat.mul_le_mul (by omega) (by omega)
      have zm430 := Nat.zero_le (C * (((f / C : Nat) : Int) + zdn w).toNat)
      have e431 : (zn C) * z412 = zn (C * (((f / C : Nat) : Int) + zdn w).toNat) := zn_of (zmulN (by omega) (by omega) (by omega) (by omega))
      have te431 := znt (k := C * (((f / C : Nat) : Int) + zdn w).toNat) (by omega)
      refine w_alu (pc' := 110) (st' := [.int (zn (C * (((f / C : Nat) : Int) + zdn w).toNat))]) (ykc_192 (e := (0, .imul, 0)) rfl) (by rw [← e431]; rfl) rfl ?_
      refine w_load (pc' := 112) (v := .int z421) (m := 2) (ykc_192 (e := (2, .iload 4, 0)) rfl) rfl rfl ?_
      have zt : zto C f w = C * (((f / C : Nat) : Int) + zdn w).toNat + (((f % C : Nat) : Int) + zrg w).toNat := rfl
      have e432 : (zn (C * (((f / C : Nat) : Int) + zdn w).toNat)) + z421 = zn (zto C f w) := zn_of (by have := ti_add (x := (zn (C * (((f / C : Nat) : Int) + zdn w).toNat))) (y := z421) (by omega) (by omega); unfold zto; omega)
      have te432 := znt (k := zto C f w) (by omega)
      refine w_alu (pc' := 113) (st' := [.int (zn (zto C f w))]) (ykc_192 (e := (0, .iadd, 0)) rfl) (by rw [← e432]; rfl) rfl ?_
      refine w_br (pc' := 117) (st' := [.int (zn (zto C f w))]) (ykc_192 (e := (4, .goto 4, 117)) rfl) rfl ?_
      refine w_ret (v := (some (.int (zn (zto C f w))))) (ykc_192 (e := (7, .ireturn, 0)) rfl) (zr_v rfl) ?_
      rw [hQ]
      have hi : zin R C f w = true := decide_eq_true (by omega)
      exact ⟨rfl, _, rfl, by unfold zbf; rw [if_pos hi]; exact znt (by omega)⟩
end
