/-! By hand: one step at a time, backwards; what a step leaves known is named -/
theorem xrM : xX.1 170 = some 0 := by decide +kernel
noncomputable def xMf (k : Nat) : Option ((Int × Int) ⊕ Option Nat) := match xkt 0 with
  | some (_, .inr (_, fts)) => fts[k]?
  | _ => none
noncomputable def xone (u : Nat) : Option Nat := match xsub u with
  | [i] => (match xkt i with
    | some (some a, _) => some a
    | _ => none)
  | _ => none
/-- one cell is changed -/
def xu1 (ph ph' : pm_H) (a k : Nat) (v : Value) : Prop := xget ph' a k = some v ∧ (∀ b c, ¬ (b = a ∧ c = k) → xget ph' b c = xget ph b c) ∧ ∀ b, b ≠ a → pm_at ph' b = pm_at ph b
/-- an array of no ints is changed -/
def xu0 (ph ph' : pm_H) (a : Nat) : Prop := (∀ b c, xget ph' b c = xget ph b c) ∧ ∀ b, b ≠ a → pm_at ph' b = pm_at ph b
theorem xM_at {m : Int} {w : Nat} {ph : pm_H} (hP : xH xX kK m w ph) : ∃ fl fts, pm_at ph 170 = some (.inr (13, fl)) ∧ xkt 0 = some (some 170, .inr (13, fts)) ∧ ∀ (k : Nat) (ft : (Int × Int) ⊕ Option Nat), fts[k]? = some ft → ∃ v, fl[k]? = some v ∧ xftG xX v ft := by
  obtain ⟨s, t, h1, -, h3⟩ := hP 170 0 xrM
  have h0 : ∃ fts, xX.2.1 0 = some (some 170, .inr (13, fts)) := ⟨_, rfl⟩
  obtain ⟨fts, h0⟩ := h0
  rw [h0] at h1
  cases h1
  obtain ⟨fl, hat, hfl⟩ := h3
  exact ⟨fl, fts, hat, h0, hfl⟩
theorem xM_fi {m : Int} {w k : Nat} {lo hi : Int} {ph : pm_H} (hP : xH xX kK m w ph) (hf : xMf k = some (.inl (lo, hi))) : ∃ x : Int32, xget ph 170 k = some (.int x) ∧ lo ≤ x.toInt ∧ x.toInt ≤ hi := by
  obtain ⟨fl, fts, hat, h0, hfl⟩ := xM_at hP
  unfold xMf at hf
  rw [h0] at hf
  replace hf : fts[k]? = some _ := hf
  obtain ⟨v, hv, x, e, b1, b2⟩ := hfl k _ hf
  subst e
  exact ⟨x, by unfold xget; rw [hat]; exact hv, b1, b2⟩
theorem xM_fr {m : Int} {w k u A : Nat} {ph : pm_H} (hP : xH xX kK m w ph) (hf : xMf k = some (.inr (some u))) (hu : xone u = some A) : xget ph 170 k = some (.ref A) := by
  obtain ⟨fl, fts, hat, h0, hfl⟩ := xM_at hP
  unfold xMf at hf
  rw [h0] at hf
  replace hf : fts[k]? = some _ := hf
  obtain ⟨v, hv, a, i, e, ho, hi⟩ := hfl k _ hf
  subst e
  unfold xone at hu
  split at hu
  · next i0 hs =>
    have hi : i ∈ xsub u := hi
    rw [hs] at hi
    have ei : i = i0 := by
      rcases List.mem_cons.mp hi with e | e
      · exact e
      · cases e
    subst ei
    split at hu
    · next a0 t0 hk =>
      cases hu
      obtain ⟨s, t, h1, h2, -⟩ := hP a i ho
      rw [show xX.2.1 i = xkt i from rfl, hk] at h1
      cases h1
      have := h2 A rfl
      subst this
      unfold xget
      rw [hat]
      exact hv
    · cases hu
  · cases hu
/-- an array of ints at its address -/
theorem xA_at {m : Int} {w A i n p u : Nat} {sg : List (Nat × xe)} {ph : pm_H} (hP : xH xX kK m w ph) (ho : xown A = some i) (ht : xkt i = some (some A, .inl (0, n, p, sg, u))) : ∃ l : List Int32, pm_at ph A = some (.inl (0, .inl l)) ∧ l.length = n ∧ ∀ (k : Nat) (x : Int32), l[k]? = some x → xeG m w x.toInt (xat sg (k % p)) := by
  obtain ⟨s, t, h1, -, h3⟩ := hP A i ho
  rw [show xX.2.1 i = xkt i from rfl, ht] at h1
  cases h1
  exact h3
theorem xA_el {m : Int} {w A i n p u k : Nat} {sg : List (Nat × xe)} {ph : pm_H} (hP : xH xX kK m w ph) (ho : xown A = some i) (ht : xkt i = some (some A, .inl (0, n, p, sg, u))) (hk : k < n) : ∃ x : Int32, xget ph A k = some (.int x) ∧ xeG m w x.toInt (xat sg (k % p)) := by
  obtain ⟨l, hat, hlen, hel⟩ := xA_at hP ho ht
  obtain ⟨y, hy⟩ : ∃ y, l[k]? = some y := ⟨_, List.getElem?_eq_getElem (by omega)⟩
  refine ⟨y, ?_, hel k y hy⟩
  unfold xget
  rw [hat]
  show (l[k]?).map Value.int = _
  rw [hy]
  rfl
theorem xu1_E {E : pm_H → Prop} {gA : List Nat} {gF : List (Nat × Nat)} {ph ph' : pm_H} {a k i : Nat} {v : Value} (hE : xHE xX gA gF E) (u : xu1 ph ph' a k v) (ho : xown a = some i) (h1 : xmemN gA i = false) (h2 : xmemP gF i k = false) (g : E ph) : E ph' := by
  refine hE ph ph' ⟨fun b j hb hj => ?_, fun b j c hb hj => ?_⟩ g
  · by_cases e : b = a
    · subst e
      have hb : xown b = some j := hb
      rw [ho] at hb
      cases hb
      exact absurd hj (xmemN_ok h1)
    · exact (u.2.2 b e).symm
  · refine (u.2.1 b c ?_).symm
    rintro ⟨e1, e2⟩
    subst e1 e2
    have hb : xown b = some j := hb
    rw [ho] at hb
    cases hb
    exact absurd hj (xmemP_ok h2)
theorem xu0_E {E : pm_H → Prop} {gA : List Nat} {gF : List (Nat × Nat)} {ph ph' : pm_H} {a i : Nat} (hE : xHE xX gA gF E) (u : xu0 ph ph' a) (ho : xown a = some i) (h1 : xmemN gA i = false) (g : E ph) : E ph' := by
  refine hE ph ph' ⟨fun b j hb hj => ?_, fun b j c hb hj => (u.1 b c).symm⟩ g
  by_cases e : b = a
  · subst e
    have hb : xown b = some j := hb
    rw [ho] at hb
    cases hb
    exact absurd hj (xmemN_ok h1)
  · exact (u.2 b e).symm
section XGT
variable {K : pm_K} {D j pc pc' aux n : Nat} {Q : Option Value → pm_H → Prop} {ins : Instr} {L L' : List (Option Value)} {st st' r as : List Value} {ph : pm_H} {m : Int} {w : Nat} {v0 : Value}
theorem gt_s {x x' : pm_S} (h : pm_step K false j x = some (.inl x')) (kk : xGT K D j Q x') : xGT K D j Q x := by
  obtain ⟨n, v, ph', h1, h2⟩ := kk
  exact ⟨n + 1, v, ph', by rw [pm_Tn, h]; exact h1, h2⟩
theorem gt_alu (hc : pm_code K j pc = some (0, ins, aux)) (h : pm_alu ins st = some st') (hp : pc + 1 = pc') (kk : xGT K D j Q (pc', L, st', ph, 0, 0)) : xGT K D j Q (pc, L, st, ph, 0, 0) := by
  subst hp
  exact gt_s (xs0 hc h) kk
theorem gt_push {v : Value} (hc : pm_code K j pc = some (1, ins, aux)) (h : pm_push K (pm_own K j) ins = some (v, n)) (hp : pc + n = pc') (kk : xGT K D j Q (pc', L, v :: st, ph, 0, 0)) : xGT K D j Q (pc, L, st, ph, 0, 0) := by
  subst hp
  exact gt_s (xs1 hc h) kk
theorem gt_load {v : Value} (hc : pm_code K j pc = some (2, ins, aux)) (h : pm_load ins L = some (v, n)) (hp : pc + n = pc') (kk : xGT K D j Q (pc', L, v :: st, ph, 0, 0)) : xGT K D j Q (pc, L, st, ph, 0, 0) := by
  subst hp
  exact gt_s (xs2 hc h) kk
theorem gt_store (hc : pm_code K j pc = some (3, ins, aux)) (h : pm_store ins L st = some (L', st', n)) (hp : pc + n = pc') (kk : xGT K D j Q (pc', L', st', ph, 0, 0)) : xGT K D j Q (pc, L, st, ph, 0, 0) := by
  subst hp
  exact gt_s (xs3 hc h) kk
theorem gt_br (hc : pm_code K j pc = some (4, ins, aux)) (h : pm_br ins aux pc st = some (pc', st')) (kk : xGT K D j Q (pc', L, st', ph, 0, 0)) : xGT K D j Q (pc, L, st, ph, 0, 0) := gt_s (xs4 hc h) kk
theorem gt_mem {ph' : pm_H} (hc : pm_code K j pc = some (5, ins, aux)) (h : pm_mem K false (pm_own K j) ins st ph = some (n, st', ph', 0, 0)) (hp : pc + n = pc') (kk : xGT K D j Q (pc', L, st', ph', 0, 0)) : xGT K D j Q (pc, L, st, ph, 0, 0) := by
  subst hp
  exact gt_s (xs5 hc h) kk
theorem gt_ret {v : Option Value} (hc : pm_code K j pc = some (7, ins, aux)) (h : pm_ret (pm_sig K j).2.2 ins st = some v) (kk : Q v ph) : xGT K D j Q (pc, L, st, ph, 0, 0) := ⟨1, v, ph, by rw [pm_Tn, xs7 hc h], kk⟩
theorem gt_call {j' : Nat} {P : Option Value → pm_H → Prop} (hc : pm_code K j pc = some (6, ins, aux)) (h : pm_inv K (pm_own K j) ins st ph = some (j', as, r)) (hr : ∃ v ph', pm_Rd K false D j' as ph (v, ph', 0, 0) ∧ P v ph') (hp : pc + 3 = pc') (kk : ∀ v ph', P v ph' → xGT K D j Q (pc', L, v.toList ++ r, ph', 0, 0)) : xGT K D j Q (pc, L, st, ph, 0, 0) := by
  subst hp
  obtain ⟨v, ph', h1, h2⟩ := hr
  obtain ⟨n, v2, ph2, h3, h4⟩ := kk v ph' h2
  exact ⟨n + 1, v2, ph2, by rw [pm_Tn, xs6 hc h]; exact ⟨v, ph', 0, 0, h1, h3⟩, h4⟩
/-! branches -/
theorem x32lt {x y : Int32} : x < y ↔ x.toInt < y.toInt := Int32.lt_iff_toInt_lt
theorem x32le {x y : Int32} : x ≤ y ↔ x.toInt ≤ y.toInt := Int32.le_iff_toInt_le
theorem z0le {x : Int32} : 0 ≤ x ↔ 0 ≤ x.toInt := by rw [x32le, x0i]
theorem z0lt {x : Int32} : 0 < x ↔ 0 < x.toInt := by rw [x32lt, x0i]
variable {o : Int} {x y : Int32}
theorem gt_ilt_t (hc : pm_code K j pc = some (4, .if_icmp .lt o, aux)) (h : x.toInt < y.toInt) (kk : xGT K D j Q (aux, L, st, ph, 0, 0)) : xGT K D j Q (pc, L, .int y :: .int x :: st, ph, 0, 0) := gt_br hc (by show some (bif decide (x < y) then aux else pc + 3, st) = _; rw [decide_eq_true (x32lt.mpr h)]; rfl) kk
theorem gt_ilt_f (hc : pm_code K j pc = some (4, .if_icmp .lt o, aux)) (h : y.toInt ≤ x.toInt) (hp : pc + 3 = pc') (kk : xGT K D j Q (pc', L, st, ph, 0, 0)) : xGT K D j Q (pc, L, .int y :: .int x :: st, ph, 0, 0) := gt_br hc (by show some (bif decide (x < y) then aux else pc + 3, st) = _; rw [decide_eq_false (fun q => by have := x32lt.mp q; omega), ← hp]; rfl) kk
theorem gt_ige_t (hc : pm_code K j pc = some (4, .if_icmp .ge o, aux)) (h : y.toInt ≤ x.toInt) (kk : xGT K D j Q (aux, L, st, ph, 0, 0)) : xGT K D j Q (pc, L, .int y :: .int x :: st, ph, 0, 0) := gt_br hc (by show some (bif decide (y ≤ x) then aux else pc + 3, st) = _; rw [decide_eq_true (x32le.mpr h)]; rfl) kk
theorem gt_ige_f (hc : pm_code K j pc = some (4, .if_icmp .ge o, aux)) (h : x.toInt < y.toInt) (hp : pc + 3 = pc') (kk : xGT K D j Q (pc', L, st, ph, 0, 0)) : xGT K D j Q (pc, L, .int y :: .int x :: st, ph, 0, 0) := gt_br hc (by show some (bif decide (y ≤ x) then aux else pc + 3, st) = _; rw [decide_eq_false (fun q => by have := x32le.mp q; omega), ← hp]; rfl) kk
theorem gt_igt_t (hc : pm_code K j pc = some (4, .if_icmp .gt o, aux)) (h : y.toInt < x.toInt) (kk : xGT K D j Q (aux, L, st, ph, 0, 0)) : xGT K D j Q (pc, L, .int y :: .int x :: st, ph, 0, 0) := gt_br hc (by show some (bif decide (y < x) then aux else pc + 3, st) = _; rw [decide_eq_true (x32lt.mpr h)]; rfl) kk
theorem gt_igt_f (hc : pm_code K j pc = some (4, .if_icmp .gt o, aux)) (h : x.toInt ≤ y.toInt) (hp : pc + 3 = pc') (kk : xGT K D j Q (pc', L, st, ph, 0, 0)) : xGT K D j Q (pc, L, .int y :: .int x :: st, ph, 0, 0) := gt_br hc (by show some (bif decide (y < x) then aux else pc + 3, st) = _; rw [decide_eq_false (fun q => by have := x32lt.mp q; omega), ← hp]; rfl) kk
theorem gt_ile_t (hc : pm_code K j pc = some (4, .if_icmp .le o, aux)) (h : x.toInt ≤ y.toInt) (kk : xGT K D j Q (aux, L, st, ph, 0, 0)) : xGT K D j Q (pc, L, .int y :: .int x :: st, ph, 0, 0) := gt_br hc (by show some (bif decide (x ≤ y) then aux else pc + 3, st) = _; rw [decide_eq_true (x32le.mpr h)]; rfl) kk
theorem gt_ile_f (hc : pm_code K j pc = some (4, .if_icmp .le o, aux)) (h : y.toInt < x.toInt) (hp : pc + 3 = pc') (kk : xGT K D j Q (pc', L, st, ph, 0, 0)) : xGT K D j Q (pc, L, .int y :: .int x :: st, ph, 0, 0) := gt_br hc (by show some (bif decide (x ≤ y) then aux else pc + 3, st) = _; rw [decide_eq_false (fun q => by have := x32le.mp q; omega), ← hp]; rfl) kk
theorem gt_ieq_t (hc : pm_code K j pc = some (4, .if_icmp .eq o, aux)) (h : x.toInt = y.toInt) (kk : xGT K D j Q (aux, L, st, ph, 0, 0)) : xGT K D j Q (pc, L, .int y :: .int x :: st, ph, 0, 0) := gt_br hc (by show some (bif decide (x = y) then aux else pc + 3, st) = _; rw [decide_eq_true (Int32.toInt_inj.mp h)]; rfl) kk
theorem gt_ieq_f (hc : pm_code K j pc = some (4, .if_icmp .eq o, aux)) (h : x.toInt ≠ y.toInt) (hp : pc + 3 = pc') (kk : xGT K D j Q (pc', L, st, ph, 0, 0)) : xGT K D j Q (pc, L, .int y :: .int x :: st, ph, 0, 0) := gt_br hc (by show some (bif decide (x = y) then aux else pc + 3, st) = _; rw [decide_eq_false (fun q => h (by rw [q])), ← hp]; rfl) kk
theorem gt_ine_t (hc : pm_code K j pc = some (4, .if_icmp .ne o, aux)) (h : x.toInt ≠ y.toInt) (kk : xGT K D j Q (aux, L, st, ph, 0, 0)) : xGT K D j Q (pc, L, .int y :: .int x :: st, ph, 0, 0) := gt_br hc (by show some (bif decide (x = y) then pc + 3 else aux, st) = _; rw [decide_eq_false (fun q => h (by rw [q]))]; rfl) kk
theorem gt_ine_f (hc : pm_code K j pc = some (4, .if_icmp .ne o, aux)) (h : x.toInt = y.toInt) (hp : pc + 3 = pc') (kk : xGT K D j Q (pc', L, st, ph, 0, 0)) : xGT K D j Q (pc, L, .int y :: .int x :: st, ph, 0, 0) := gt_br hc (by show some (bif decide (x = y) then pc + 3 else aux, st) = _; rw [decide_eq_true (Int32.toInt_inj.mp h), ← hp]; rfl) kk
theorem gt_zlt_t (hc : pm_code K j pc = some (4, .ifCond .lt o, aux)) (h : x.toInt < 0) (kk : xGT K D j Q (aux, L, st, ph, 0, 0)) : xGT K D j Q (pc, L, .int x :: st, ph, 0, 0) := gt_br hc (by show some (bif decide (x < 0) then aux else pc + 3, st) = _; rw [decide_eq_true (x32lt.mpr h)]; rfl) kk
theorem gt_zlt_f (hc : pm_code K j pc = some (4, .ifCond .lt o, aux)) (h : 0 ≤ x.toInt) (hp : pc + 3 = pc') (kk : xGT K D j Q (pc', L, st, ph, 0, 0)) : xGT K D j Q (pc, L, .int x :: st, ph, 0, 0) := gt_br hc (by show some (bif decide (x < 0) then aux else pc + 3, st) = _; rw [decide_eq_false (fun q => by have := x32lt.mp q; have h0 := x0i; omega), ← hp]; rfl) kk
theorem gt_zge_t (hc : pm_code K j pc = some (4, .ifCond .ge o, aux)) (h : 0 ≤ x.toInt) (kk : xGT K D j Q (aux, L, st, ph, 0, 0)) : xGT K D j Q (pc, L, .int x :: st, ph, 0, 0) := gt_br hc (by show some (bif decide (0 ≤ x) then aux else pc + 3, st) = _; rw [decide_eq_true (z0le.mpr h)]; rfl) kk
theorem gt_zge_f (hc : pm_code K j pc = some (4, .ifCond .ge o, aux)) (h : x.toInt < 0) (hp : pc + 3 = pc') (kk : xGT K D j Q (pc', L, st, ph, 0, 0)) : xGT K D j Q (pc, L, .int x :: st, ph, 0, 0) := gt_br hc (by show some (bif decide (0 ≤ x) then aux else pc + 3, st) = _; rw [decide_eq_false (fun q => by have := x32le.mp q; have h0 := x0i; omega), ← hp]; rfl) kk
theorem gt_zgt_t (hc : pm_code K j pc = some (4, .ifCond .gt o, aux)) (h : 0 < x.toInt) (kk : xGT K D j Q (aux, L, st, ph, 0, 0)) : xGT K D j Q (pc, L, .int x :: st, ph, 0, 0) := gt_br hc (by show some (bif decide (0 < x) then aux else pc + 3, st) = _; rw [decide_eq_true (z0lt.mpr h)]; rfl) kk
theorem gt_zgt_f (hc : pm_code K j pc = some (4, .ifCond .gt o, aux)) (h : x.toInt ≤ 0) (hp : pc + 3 = pc') (kk : xGT K D j Q (pc', L, st, ph, 0, 0)) : xGT K D j Q (pc, L, .int x :: st, ph, 0, 0) := gt_br hc (by show some (bif decide (0 < x) then aux else pc + 3, st) = _; rw [decide_eq_false (fun q => by have := x32lt.mp q; have h0 := x0i; omega), ← hp]; rfl) kk
theorem gt_zle_t (hc : pm_code K j pc = some (4, .ifCond .le o, aux)) (h : x.toInt ≤ 0) (kk : xGT K D j Q (aux, L, st, ph, 0, 0)) : xGT K D j Q (pc, L, .int x :: st, ph, 0, 0) := gt_br hc (by show some (bif decide (x ≤ 0) then aux else pc + 3, st) = _; rw [decide_eq_true (x32le.mpr h)]; rfl) kk
theorem gt_zle_f (hc : pm_code K j pc = some (4, .ifCond .le o, aux)) (h : 0 < x.toInt) (hp : pc + 3 = pc') (kk : xGT K D j Q (pc', L, st, ph, 0, 0)) : xGT K D j Q (pc, L, .int x :: st, ph, 0, 0) := gt_br hc (by show some (bif decide (x ≤ 0) then aux else pc + 3, st) = _; rw [decide_eq_false (fun q => by have := x32le.mp q; have h0 := x0i; omega), ← hp]; rfl) kk
theorem gt_zeq_t (hc : pm_code K j pc = some (4, .ifCond .eq o, aux)) (h : x.toInt = 0) (kk : xGT K D j Q (aux, L, st, ph, 0, 0)) : xGT K D j Q (pc, L, .int x :: st, ph, 0, 0) := gt_br hc (by show some (bif decide (x = 0) then aux else pc + 3, st) = _; rw [decide_eq_true (Int32.toInt_inj.mp h)]; rfl) kk
theorem gt_zeq_f (hc : pm_code K j pc = some (4, .ifCond .eq o, aux)) (h : x.toInt ≠ 0) (hp : pc + 3 = pc') (kk : xGT K D j Q (pc', L, st, ph, 0, 0)) : xGT K D j Q (pc, L, .int x :: st, ph, 0, 0) := gt_br hc (by show some (bif decide (x = 0) then aux else pc + 3, st) = _; rw [decide_eq_false (fun q => h (by rw [q]; rfl)), ← hp]; rfl) kk
theorem gt_zne_t (hc : pm_code K j pc = some (4, .ifCond .ne o, aux)) (h : x.toInt ≠ 0) (kk : xGT K D j Q (aux, L, st, ph, 0, 0)) : xGT K D j Q (pc, L, .int x :: st, ph, 0, 0) := gt_br hc (by show some (bif decide (x = 0) then pc + 3 else aux, st) = _; rw [decide_eq_false (fun q => h (by rw [q]; rfl))]; rfl) kk
theorem gt_zne_f (hc : pm_code K j pc = some (4, .ifCond .ne o, aux)) (h : x.toInt = 0) (hp : pc + 3 = pc') (kk : xGT K D j Q (pc', L, st, ph, 0, 0)) : xGT K D j Q (pc, L, .int x :: st, ph, 0, 0) := gt_br hc (by show some (bif decide (x = 0) then pc + 3 else aux, st) = _; rw [decide_eq_true (Int32.toInt_inj.mp h), ← hp]; rfl) kk
/-! the heap -/
theorem gt_gfk {i k : Nat} {v : Value} (hc : pm_code kK j pc = some (5, .getfield i, aux)) (hl : pm_lnk kK (pm_own kK j) i = some (6, 13, k, v0)) (hP : xH xX kK m w ph) (hg : xget ph 170 k = some v) (hp : pc + 3 = pc') (kk : xGT kK D j Q (pc', L, v :: st, ph, 0, 0)) : xGT kK D j Q (pc, L, .ref 170 :: st, ph, 0, 0) := by
  obtain ⟨fl, fts, hat, -, -⟩ := xM_at hP
  have hv : fl[k]? = some v := by
    unfold xget at hg
    rw [hat] at hg
    exact hg
  exact gt_mem hc (by
    unfold pm_mem
    have e : Nat.beq 13 13 = true := rfl
    simp only [hl, hat, e, hv, cond_true]) hp kk
theorem gt_gfi {i k : Nat} {lo hi : Int} (hc : pm_code kK j pc = some (5, .getfield i, aux)) (hl : pm_lnk kK (pm_own kK j) i = some (6, 13, k, v0)) (hP : xH xX kK m w ph) (hf : xMf k = some (.inl (lo, hi))) (hp : pc + 3 = pc') (kk : ∀ x : Int32, xget ph 170 k = some (.int x) → lo ≤ x.toInt → x.toInt ≤ hi → xGT kK D j Q (pc', L, .int x :: st, ph, 0, 0)) : xGT kK D j Q (pc, L, .ref 170 :: st, ph, 0, 0) := by
  obtain ⟨x, h1, h2, h3⟩ := xM_fi hP hf
  exact gt_gfk hc hl hP h1 hp (kk x h1 h2 h3)
theorem gt_gfr {i k u A : Nat} (hc : pm_code kK j pc = some (5, .getfield i, aux)) (hl : pm_lnk kK (pm_own kK j) i = some (6, 13, k, v0)) (hP : xH xX kK m w ph) (hf : xMf k = some (.inr (some u))) (hu : xone u = some A) (hp : pc + 3 = pc') (kk : xGT kK D j Q (pc', L, .ref A :: st, ph, 0, 0)) : xGT kK D j Q (pc, L, .ref 170 :: st, ph, 0, 0) := gt_gfk hc hl hP (xM_fr hP hf hu) hp kk
theorem gt_pf {i k : Nat} {lo hi : Int} (hc : pm_code kK j pc = some (5, .putfield i, aux)) (hl : pm_lnk kK (pm_own kK j) i = some (6, 13, k, v0)) (hP : xH xX kK m w ph) (hf : xMf k = some (.inl (lo, hi))) (hty : pm_fty kK 13 k = .int) (h1 : lo ≤ y.toInt) (h2 : y.toInt ≤ hi) (hp : pc + 3 = pc') (kk : ∀ ph', xH xX kK m w ph' → xu1 ph ph' 170 k (.int y) → xGT kK D j Q (pc', L, st, ph', 0, 0)) : xGT kK D j Q (pc, L, .int y :: .ref 170 :: st, ph, 0, 0) := by
  obtain ⟨fl, fts, hat, h0, hfl⟩ := xM_at hP
  unfold xMf at hf
  rw [h0] at hf
  replace hf : fts[k]? = some _ := hf
  obtain ⟨v, hv, -⟩ := hfl k _ hf
  have hlen : k < fl.length := (List.getElem?_eq_some_iff.mp hv).1
  have hbl : Nat.blt k fl.length = true := Nat.ble_eq_true_of_le hlen
  have hat2 : pm_at (ph.set 170 (.inr (13, fl.set k (.int y)))) 170 = some (.inr (13, fl.set k (.int y))) := xat_self hat
  refine gt_mem (ph' := ph.set 170 (.inr (13, fl.set k (.int y)))) hc ?_ hp (kk _ ?_ ⟨?_, ?_, ?_⟩)
  · unfold pm_mem
    have e : Nat.beq 13 13 = true := rfl
    have e2 : pm_fit .int (.int y) = true := rfl
    simp only [hl, hat, e, hty, e2, hbl, Bool.and_self, cond_true]
  · refine xH_set (t := .inr (13, fts)) hP xrM h0 ⟨_, hat2, fun k2 ft2 hft2 => ?_⟩
    by_cases ek : k2 = k
    · subst ek
      rw [hf] at hft2
      cases hft2
      exact ⟨.int y, List.getElem?_set_self hlen, y, rfl, h1, h2⟩
    · rw [List.getElem?_set_ne (Ne.symm ek)]
      exact hfl k2 ft2 hft2
  · unfold xget
    rw [hat2]
    exact List.getElem?_set_self hlen
  · intro b c hne
    by_cases eb : b = 170
    · subst eb
      unfold xget
      rw [hat2, hat]
      show (fl.set k (.int y))[c]? = fl[c]?
      exact List.getElem?_set_ne (fun q => hne ⟨rfl, q.symm⟩)
    · exact xget_ne eb
  · intro b eb
    exact xat_ne eb
theorem gt_ialk {A k : Nat} (hc : pm_code K j pc = some (5, .iaload, aux)) (hg : xget ph A k = some (.int y)) (hA : ∃ l, pm_at ph A = some (.inl (0, .inl l))) (hx : x.toInt = k) (hp : pc + 1 = pc') (kk : xGT K D j Q (pc', L, .int y :: st, ph, 0, 0)) : xGT K D j Q (pc, L, .int x :: .ref A :: st, ph, 0, 0) := by
  obtain ⟨l, hat⟩ := hA
  have hy : l[x.toInt.toNat]? = some y := by
    unfold xget at hg
    rw [hat] at hg
    have e : x.toInt.toNat = k := by omega
    rw [e]
    have hg : (l[k]?).map Value.int = some (.int y) := hg
    cases hq : l[k]? with
    | none => rw [hq] at hg; cases hg
    | some z => rw [hq] at hg; cases hg; rfl
  exact gt_mem hc (by
    unfold pm_mem
    simp only [hat, xix_eq (show 0 ≤ x.toInt by omega), hy]) hp kk
theorem gt_ial {A i n p u : Nat} {sg : List (Nat × xe)} (hc : pm_code K j pc = some (5, .iaload, aux)) (hP : xH xX kK m w ph) (ho : xown A = some i) (ht : xkt i = some (some A, .inl (0, n, p, sg, u))) (h0 : 0 ≤ x.toInt) (h1 : x.toInt < n) (hp : pc + 1 = pc') (kk : ∀ y : Int32, xget ph A x.toInt.toNat = some (.int y) → xeG m w y.toInt (xat sg (x.toInt.toNat % p)) → xGT K D j Q (pc', L, .int y :: st, ph, 0, 0)) : xGT K D j Q (pc, L, .int x :: .ref A :: st, ph, 0, 0) := by
  obtain ⟨y, h2, h3⟩ := xA_el (k := x.toInt.toNat) hP ho ht (by omega)
  obtain ⟨l, hat, -, -⟩ := xA_at hP ho ht
  exact gt_ialk hc h2 ⟨l, hat⟩ (by omega) hp (kk y h2 h3)
theorem gt_ias {A i n p u : Nat} {sg : List (Nat × xe)} (hc : pm_code K j pc = some (5, .iastore, aux)) (hP : xH xX kK m w ph) (ho : xown A = some i) (ht : xkt i = some (some A, .inl (0, n, p, sg, u))) (h0 : 0 ≤ x.toInt) (h1 : x.toInt < n) (he : xeG m w y.toInt (xat sg (x.toInt.toNat % p))) (hp : pc + 1 = pc') (kk : ∀ ph', xH xX kK m w ph' → xu1 ph ph' A x.toInt.toNat (.int y) → xGT K D j Q (pc', L, st, ph', 0, 0)) : xGT K D j Q (pc, L, .int y :: .int x :: .ref A :: st, ph, 0, 0) := by
  obtain ⟨l, hat, hlen, hel⟩ := xA_at hP ho ht
  have hlt : x.toInt.toNat < l.length := by omega
  have hat2 : pm_at (ph.set A (.inl (0, .inl (l.set x.toInt.toNat y)))) A = some (.inl (0, .inl (l.set x.toInt.toNat y))) := xat_self hat
  refine gt_mem (ph' := ph.set A (.inl (0, .inl (l.set x.toInt.toNat y)))) hc ?_ hp (kk _ ?_ ⟨?_, ?_, ?_⟩)
  · unfold pm_mem
    simp only [hat, xup_eq h0 hlt]
  · refine xH_set (t := .inl (0, n, p, sg, u)) hP ho ht ⟨_, hat2, by rw [List.length_set]; exact hlen, fun i2 x2 hx2 => ?_⟩
    by_cases ei : i2 = x.toInt.toNat
    · subst ei
      rw [List.getElem?_set_self hlt] at hx2
      cases hx2
      exact he
    · rw [List.getElem?_set_ne (Ne.symm ei)] at hx2
      exact hel i2 x2 hx2
  · unfold xget
    rw [hat2]
    show ((l.set x.toInt.toNat y)[x.toInt.toNat]?).map Value.int = _
    rw [List.getElem?_set_self hlt]
    rfl
  · intro b c hne
    by_cases eb : b = A
    · subst eb
      unfold xget
      rw [hat2, hat]
      show ((l.set x.toInt.toNat y)[c]?).map Value.int = (l[c]?).map Value.int
      rw [List.getElem?_set_ne (fun q => hne ⟨rfl, q.symm⟩)]
    · exact xget_ne eb
  · intro b eb
    exact xat_ne eb
/-- elements of an array of booleans -/
def xgb (ph : pm_H) (A k : Nat) (y : Int32) : Prop := ∃ l : List Int32, pm_at ph A = some (.inl (1, .inl l)) ∧ l[k]? = some y
theorem gt_bal {A i n p u : Nat} {sg : List (Nat × xe)} (hc : pm_code K j pc = some (5, .baload, aux)) (hP : xH xX kK m w ph) (ho : xown A = some i) (ht : xkt i = some (some A, .inl (1, n, p, sg, u))) (h0 : 0 ≤ x.toInt) (h1 : x.toInt < n) (hp : pc + 1 = pc') (kk : ∀ y : Int32, xgb ph A x.toInt.toNat y → 0 ≤ y.toInt → y.toInt ≤ 1 → xGT K D j Q (pc', L, .int y :: st, ph, 0, 0)) : xGT K D j Q (pc, L, .int x :: .ref A :: st, ph, 0, 0) := by
  obtain ⟨s, t, h4, -, h3⟩ := hP A i ho
  rw [show xX.2.1 i = xkt i from rfl, ht] at h4
  cases h4
  obtain ⟨l, hat, hlen, hel⟩ := h3
  obtain ⟨y, hy⟩ : ∃ y, l[x.toInt.toNat]? = some y := ⟨_, List.getElem?_eq_getElem (by omega)⟩
  have hb := hel _ y hy
  exact gt_mem hc (by
    unfold pm_mem
    simp only [hat, xix_eq h0, hy]) hp (kk y ⟨l, hat, hy⟩ hb.1 hb.2)
/-! calls -/
theorem gt_cv {j' i n : Nat} {P : Option Value → pm_H → Prop} (hc : pm_code kK j pc = some (6, .invokevirtual i, aux)) (hl : pm_lnk kK (pm_own kK j) i = some (2, j', n, .ref 13)) (hP : xH xX kK m w ph) (hd : st.drop n = .ref 170 :: r) (hcat : Nat.ble (r.map fun v => v.category).sum 8 = true) (ha : .ref 170 :: (st.take n).reverse = as) (hr : ∃ v ph', pm_Rd kK false D j' as ph (v, ph', 0, 0) ∧ P v ph') (hp : pc + 3 = pc') (kk : ∀ v ph', P v ph' → xGT kK D j Q (pc', L, v.toList ++ r, ph', 0, 0)) : xGT kK D j Q (pc, L, st, ph, 0, 0) := by
  obtain ⟨fl, fts, hat, -, -⟩ := xM_at hP
  refine gt_call (as := as) (r := r) hc ?_ hr hp kk
  unfold pm_inv
  have e : Nat.beq 13 13 = true := rfl
  simp only [hl, hd, hat, e, hcat, Bool.and_self, cond_true, ha]
theorem gt_cs {j' i n : Nat} {P : Option Value → pm_H → Prop} (hc : pm_code kK j pc = some (6, .invokestatic i, aux)) (hl : pm_lnk kK (pm_own kK j) i = some (1, j', n, v0)) (hb : (Nat.ble n st.length && Nat.ble ((st.drop n).map fun v => v.category).sum 8) = true) (hd : st.drop n = r) (ha : (st.take n).reverse = as) (hr : ∃ v ph', pm_Rd kK false D j' as ph (v, ph', 0, 0) ∧ P v ph') (hp : pc + 3 = pc') (kk : ∀ v ph', P v ph' → xGT kK D j Q (pc', L, v.toList ++ r, ph', 0, 0)) : xGT kK D j Q (pc, L, st, ph, 0, 0) := by
  subst hd ha
  refine gt_call hc ?_ hr hp kk
  unfold pm_inv
  simp only [hl, hb, cond_true]
end XGT
/-! numbers -/
theorem ti_add {x y : Int32} (h1 : -2147483648 ≤ x.toInt + y.toInt) (h2 : x.toInt + y.toInt ≤ 2147483647) : (x + y).toInt = x.toInt + y.toInt := by rw [Int32.toInt_add, xbm h1 h2]
theorem ti_sub {x y : Int32} (h1 : -2147483648 ≤ x.toInt - y.toInt) (h2 : x.toInt - y.toInt ≤ 2147483647) : (x - y).toInt = x.toInt - y.toInt := by rw [Int32.toInt_sub, xbm h1 h2]
theorem ti_mul {x y : Int32} (h1 : -2147483648 ≤ x.toInt * y.toInt) (h2 : x.toInt * y.toInt ≤ 2147483647) : (x * y).toInt = x.toInt * y.toInt := by rw [Int32.toInt_mul, xbm h1 h2]
theorem ti_div {x y : Int32} (h1 : 0 ≤ x.toInt) (h2 : 0 < y.toInt) : (x / y).toInt = x.toInt / y.toInt := by
  have e : x.toInt.tdiv y.toInt = x.toInt / y.toInt := Int.tdiv_eq_ediv_of_nonneg h1
  have b1 : 0 ≤ x.toInt / y.toInt := Int.ediv_nonneg h1 (by omega)
  have b2 : x.toInt / y.toInt ≤ x.toInt := Int.ediv_le_self _ h1
  have b3 := x32_hi x
  rw [Int32.toInt_div, e, xbm (by omega) (by omega)]
theorem ti_rem {x y : Int32} (h1 : 0 ≤ x.toInt) (h2 : 0 < y.toInt) : (x - x / y * y).toInt = x.toInt % y.toInt := by
  have b1 : 0 ≤ x.toInt / y.toInt := Int.ediv_nonneg h1 (by omega)
  have b3 := x32_hi x
  have e1 := Int.mul_ediv_add_emod x.toInt y.toInt
  have e2 := Int.emod_nonneg x.toInt (show y.toInt ≠ 0 by omega)
  have e3 : x.toInt / y.toInt * y.toInt = y.toInt * (x.toInt / y.toInt) := Int.mul_comm _ _
  have d := ti_div h1 h2
  have key : x.toInt / y.toInt * y.toInt + x.toInt % y.toInt = x.toInt := by rw [e3]; exact e1
  have e5 := Int.mul_nonneg b1 (show 0 ≤ y.toInt by omega)
  have e6 : (x / y * y).toInt = ((x / y).toInt * y.toInt).bmod (2 ^ 32) := Int32.toInt_mul _ _
  rw [d] at e6
  generalize x.toInt / y.toInt * y.toInt = q at *
  generalize x.toInt % y.toInt = r at *
  rw [xbm (by omega) (by omega)] at e6
  rw [ti_sub (by rw [e6]; omega) (by rw [e6]; omega), e6]
  omega
/-! contracts, used by hand -/
theorem xcon_go {X : xD} {KC : pm_K} {E : pm_H → Prop} {d j W w : Nat} {pre : List xh} {fp fq : List (Nat × xh)} {res : Option xh} (h : xcon X KC E d j pre fp W res fq) (hn : pre.all xhn = true) (hn2 : fp.all (fun p => xhn p.2) = true) (hn3 : res.all xhn = true) (hn4 : fq.all (fun p => xhn p.2) = true) {D : Nat} (hD : d ≤ D) {m : Int} (hm : m ≤ 2147483646) (hw : (w : Int) ≤ m) (hW : W ≤ w) {vs : List Value} {ph : pm_H} (c1 : xhV X m vs pre) (c2 : xhF X m ph fp) (g7 : xH X KC m w ph) (g9 : E ph) : ∃ v ph', pm_Rd KC false D j vs ph (v, ph', 0, 0) ∧ xH X KC m (w - W) ph' ∧ E ph' ∧ xhR X m v res ∧ xhF X m ph' fq := by
  have e1 : w - (w - W) = W := by omega
  have hP2 : xH X KC (m - ((w - W : Nat) : Int)) W ph := by
    have := xH_map (fun x e g => xeG_sh (show w - W ≤ w by omega) g) g7
    rw [e1] at this
    exact this
  obtain ⟨v, ph', k1, k2, k3, k4, k5⟩ := h D hD (m - ((w - W : Nat) : Int)) (by omega) (by omega) vs ph (xhV_map hn c1) (xhF_map hn2 c2) hP2 g9
  refine ⟨v, ph', k1, ?_, k3, ?_, xhF_map hn4 k5⟩
  · have := xH_map (fun x e g => xeG_hs g) k2
    rw [Nat.zero_add] at this
    exact this
  · cases res with
    | none => exact k4
    | some h9 => obtain ⟨u, e, gu⟩ := k4; exact ⟨u, e, xhn_ok hn3 gu⟩
theorem xaRi {m : Int} {a i : Nat} (h : xown a = some i) (h2 : i ∈ xsub i) : xhG xX m (.ref a) (.inr (.inr (.inl i))) := ⟨a, i, rfl, h, h2⟩
theorem xaI {m : Int} {x : Int32} {lo hi : Int} (h1 : lo ≤ x.toInt) (h2 : x.toInt ≤ hi) : xhG xX m (.int x) (.inl (lo, hi)) := ⟨x, rfl, h1, h2⟩
theorem xaT {m : Int} {x : Int32} : xhG xX m (.int x) (.inl (Int.negSucc 2147483647, Int.ofNat 2147483647)) := ⟨x, rfl, x32_lo x, x32_hi x⟩
theorem xaL {m : Int} {x : Int64} : xhG xX m (.long x) (.inr (.inl (Int.negSucc 9223372036854775807, Int.ofNat 9223372036854775807))) := ⟨x, rfl, by have := x.le_toInt; show -9223372036854775808 ≤ x.toInt; omega, by have := x.toInt_lt; show x.toInt ≤ 9223372036854775807; omega⟩
/-- an argument that is one object or array alone -/
theorem xaO {m m' : Int} {w u A : Nat} {ph : pm_H} {v : Value} (hP : xH xX kK m w ph) (hu : xone u = some A) (g : xhG xX m' v (.inr (.inr (.inl u)))) : v = .ref A := by
  obtain ⟨a, i, e, ho, hi⟩ := g
  subst e
  unfold xone at hu
  split at hu
  · next i0 hs =>
    have hi : i ∈ xsub u := hi
    rw [hs] at hi
    have ei : i = i0 := by
      rcases List.mem_cons.mp hi with e | e
      · exact e
      · cases e
    subst ei
    split at hu
    · next a0 t0 hk =>
      cases hu
      obtain ⟨s, t, h1, h2, -⟩ := hP a i ho
      rw [show xX.2.1 i = xkt i from rfl, hk] at h1
      cases h1
      rw [h2 A rfl]
    · cases hu
  · cases hu
theorem xF0 {m : Int} {ph : pm_H} : xhF xX m ph [] := fun k h hk => by cases hk
theorem xF1 {m : Int} {ph : pm_H} {k : Nat} {x : Int32} {lo hi : Int} (hk : xown (k / 4096) = some 0 ∧ k / 4096 = 170 ∧ k < 17592186044416) (hg : xget ph 170 (k % 4096) = some (.int x)) (h1 : lo ≤ x.toInt) (h2 : x.toInt ≤ hi) : xhF xX m ph [(k, .inl (lo, hi))] := fun k' h' hm => by
  rcases List.mem_cons.mp hm with e | e
  · cases e
    obtain ⟨t, ht⟩ : ∃ t, xX.2.1 0 = some (some 170, t) := ⟨_, rfl⟩
    exact ⟨hk.2.2, ⟨0, t, hk.1, by rw [hk.2.1]; exact ht⟩, .int x, by rw [hk.2.1]; exact hg, x, rfl, h1, h2⟩
  · cases e
theorem xretz {z : Int32} (h0 : 0 ≤ z.toInt) (h1 : z.toInt ≤ 1) : pm_ret 2 .ireturn [.int z] = some (some (.int z)) := by
  show (bif Nat.beq 2 1 then some (some (Value.int z)) else bif Nat.beq 2 2 && (bif decide (z = 0) then true else decide (z = 1)) then some (some (Value.int z)) else bif Nat.beq 2 5 && decide (z.toUInt32.toUInt16.toUInt32.toInt32 = z) then some (some (Value.int z)) else bif Nat.beq 2 6 && decide (z.toInt8.toInt32 = z) then some (some (Value.int z)) else none) = _
  have e : (bif decide (z = 0) then true else decide (z = 1)) = true := by
    rcases (show z.toInt = 0 ∨ z.toInt = 1 by omega) with e | e
    · rw [decide_eq_true (Int32.toInt_inj.mp (show z.toInt = (0 : Int32).toInt from e))]; rfl
    · rw [decide_eq_true (Int32.toInt_inj.mp (show z.toInt = (1 : Int32).toInt from e))]
      cases decide (z = 0) <;> rfl
  rw [e]
  rfl
theorem xcells_g {kF : List (Nat × Nat)} {ph p : pm_H} {a i k : Nat} (h : xcells xX kF ph p) (ho : xown a = some i) (hk : xmemP kF i k = true) : xget p a k = xget ph a k := h a i k ho (xmemP_in hk)
theorem xget_int {ph : pm_H} {a k : Nat} {x y : Int32} (h1 : xget ph a k = some (.int x)) (h2 : xget ph a k = some (.int y)) : x = y := by
  rw [h1] at h2
  cases h2
  rfl
