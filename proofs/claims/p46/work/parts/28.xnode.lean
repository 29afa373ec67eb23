/-! X: heads of loops, contracts -/
/-- a shape: int within bounds, long, reference, hour -/
abbrev xh : Type := (Int × Int) ⊕ (Int × Int) ⊕ Nat ⊕ Nat
abbrev xm : Type := Int × List (Int × Bool × Nat)
/-- a head: where, locals, known cells, hours to come, what falls -/
abbrev xnd : Type := Nat × List (Option xh) × List (Nat × xh) × Nat × xm
def xhG (X : xD) (m : Int) (v : Value) (h : xh) : Prop := match h with
  | .inl p => ∃ x : Int32, v = .int x ∧ p.1 ≤ x.toInt ∧ x.toInt ≤ p.2
  | .inr (.inl p) => ∃ x : Int64, v = .long x ∧ p.1 ≤ x.toInt ∧ x.toInt ≤ p.2
  | .inr (.inr (.inl u)) => ∃ a i, v = .ref a ∧ X.1 a = some i ∧ i ∈ X.2.2 u
  | .inr (.inr (.inr k)) => ∃ x : Int32, v = .int x ∧ 0 ≤ x.toInt ∧ x.toInt + k ≤ m
def xhm (n : Nat) (h : xh) : xv := match h with
  | .inl p => bif zeq p.1 p.2 then .inl (0, p.1, p.1, p.1) else .inl (n, 0, p.1, p.2)
  | .inr (.inl p) => bif zeq p.1 p.2 then .inr (.inl (0, p.1, p.1, p.1)) else .inr (.inl (n, 0, p.1, p.2))
  | .inr (.inr (.inl u)) => .inr (.inr (.inl u))
  | .inr (.inr (.inr k)) => .inr (.inr (.inr (.inl k)))
noncomputable def xhs (X : xD) (q : xv) (h : xh) : Bool := match q, h with
  | .inl q, .inl p => xin q p.1 p.2
  | .inr (.inl q), .inr (.inl p) => xin q p.1 p.2
  | .inr (.inr (.inl u)), .inr (.inr (.inl v)) => xsubk X u v
  | .inr (.inr (.inr (.inl k))), .inr (.inr (.inr j)) => Nat.ble j k
  | .inr (.inr (.inr (.inl _))), .inl p => bif zle p.1 0 then zle 2147483647 p.2 else false
  | _, _ => false
section XND
variable {X : xD} {K KC : pm_K} {E : pm_H → Prop}
theorem xhm_ok {m : Int} {σ : Nat → Int} {n : Nat} {v : Value} {h : xh} (hn : 0 < n) (h0 : σ 0 = 0) (g : xhG X m v h) : ∃ e, xvG X m (xup σ n e) (n + 1) v (xhm n h) := by
  match h, g with
  | .inl p, ⟨x, e, b1, b2⟩ =>
    subst e
    refine ⟨x.toInt, ?_⟩
    unfold xhm
    simp only
    cases hz : zeq p.1 p.2 with
    | true =>
      have := zeq_ok hz
      exact xvI ⟨by show 0 < n + 1; omega, by show x.toInt = xup σ n x.toInt 0 + p.1; rw [xup_lt hn, h0]; omega, by show p.1 ≤ _; omega, by show _ ≤ p.1; omega⟩
    | false => exact xvI (xfresh b1 b2)
  | .inr (.inl p), ⟨x, e, b1, b2⟩ =>
    subst e
    refine ⟨x.toInt, ?_⟩
    unfold xhm
    simp only
    cases hz : zeq p.1 p.2 with
    | true =>
      have := zeq_ok hz
      exact xvJ ⟨by show 0 < n + 1; omega, by show x.toInt = xup σ n x.toInt 0 + p.1; rw [xup_lt hn, h0]; omega, by show p.1 ≤ _; omega, by show _ ≤ p.1; omega⟩
    | false => exact xvJ (xfresh b1 b2)
  | .inr (.inr (.inl u)), ⟨a, i, e, h1, h2⟩ => subst e; exact ⟨0, xvR h1 h2⟩
  | .inr (.inr (.inr k)), ⟨x, e, h1⟩ => subst e; exact ⟨0, xvO h1⟩
theorem xhs_ok {m : Int} {σ : Nat → Int} {n : Nat} {v : Value} {q : xv} {h : xh} (hm : m ≤ 2147483646) (hh : xhs X q h = true) (g : xvG X m σ n v q) : xhG X m v h := by
  unfold xhs at hh
  split at hh
  · next q p => obtain ⟨x, e, gx⟩ := g; have b := xin_ok hh gx; exact ⟨x, e, b.1, b.2⟩
  · next q p => obtain ⟨x, e, gx⟩ := g; have b := xin_ok hh gx; exact ⟨x, e, b.1, b.2⟩
  · obtain ⟨a, i, e, h1, h2⟩ := g; exact ⟨a, i, e, h1, xsubk_ok hh h2⟩
  · obtain ⟨x, e, h1, h2⟩ := g; exact ⟨x, e, h1, by have := Nat.le_of_ble_eq_true hh; omega⟩
  · next k p =>
    obtain ⟨x, e, h1, h2⟩ := g
    obtain ⟨h3, h4⟩ := x_and hh
    have := zle_le h3
    have := zle_le h4
    exact ⟨x, e, by omega, by omega⟩
  · cases hh
/-! lists of shapes -/
def xhL (X : xD) (m : Int) : List (Option Value) → List (Option xh) → Prop
  | [], [] => True
  | o :: r, h :: s => (∀ q, h = some q → ∃ v, o = some v ∧ xhG X m v q) ∧ xhL X m r s
  | _, _ => False
def xhV (X : xD) (m : Int) : List Value → List xh → Prop
  | [], [] => True
  | o :: r, h :: s => xhG X m o h ∧ xhV X m r s
  | _, _ => False
def xhF (X : xD) (m : Int) (ph : pm_H) (fs : List (Nat × xh)) : Prop := ∀ k h, (k, h) ∈ fs → k < 17592186044416 ∧ (∃ j t, X.1 (k / 4096) = some j ∧ X.2.1 j = some (some (k / 4096), t)) ∧ ∃ v, xget ph (k / 4096) (k % 4096) = some v ∧ xhG X m v h
def xhmL (n : Nat) (l : List (Option xh)) : List (Option xv) := match l with
  | [] => []
  | none :: r => none :: xhmL (n + 1) r
  | some h :: r => some (xhm n h) :: xhmL (n + 1) r
def xhmF (n : Nat) (l : List (Nat × xh)) : List (Nat × xv) := match l with
  | [] => []
  | p :: r => (p.1, xhm n p.2) :: xhmF (n + 1) r
theorem xhmL_ok {m : Int} : ∀ {L : List (Option Value)} {hs : List (Option xh)} {n : Nat} {σ : Nat → Int}, 0 < n → σ 0 = 0 → xhL X m L hs → ∃ σ', (∀ t, t < n → σ' t = σ t) ∧ xlG X m σ' (n + hs.length) L (xhmL n hs) := by
  intro L
  induction L with
  | nil =>
    intro hs n σ hn h0 g
    cases hs with
    | nil => exact ⟨σ, fun _ _ => rfl, trivial⟩
    | cons _ _ => exact g.elim
  | cons o L ih =>
    intro hs n σ hn h0 g
    cases hs with
    | nil => exact g.elim
    | cons h hs =>
      cases h with
      | none =>
        obtain ⟨σ', h1, h2⟩ := ih (n := n + 1) (σ := σ) (by omega) h0 g.2
        refine ⟨σ', fun t ht => h1 t (by omega), ⟨trivial, ?_⟩⟩
        rw [List.length_cons, show n + (hs.length + 1) = n + 1 + hs.length by omega]
        exact h2
      | some h =>
        obtain ⟨v, e, gv⟩ := g.1 h rfl
        obtain ⟨e9, g9⟩ := xhm_ok hn h0 gv
        obtain ⟨σ', h1, h2⟩ := ih (n := n + 1) (σ := xup σ n e9) (by omega) (by rw [xup_lt hn]; exact h0) g.2
        refine ⟨σ', fun t ht => by rw [h1 t (by omega), xup_lt ht], ⟨⟨v, e, xvG_up (fun t ht => h1 t ht) (by rw [List.length_cons]; omega) g9⟩, ?_⟩⟩
        rw [List.length_cons, show n + (hs.length + 1) = n + 1 + hs.length by omega]
        exact h2
theorem xhmF_ok {m : Int} {ph : pm_H} : ∀ {fs : List (Nat × xh)} {n : Nat} {σ : Nat → Int}, 0 < n → σ 0 = 0 → xhF X m ph fs → ∃ σ', (∀ t, t < n → σ' t = σ t) ∧ xfG X m σ' (n + fs.length) ph (xhmF n fs) := by
  intro fs
  induction fs with
  | nil => intro n σ hn h0 g; exact ⟨σ, fun _ _ => rfl, fun k q hq => by cases hq⟩
  | cons p fs ih =>
    intro n σ hn h0 g
    obtain ⟨hlt, hone, v, hget, gv⟩ := g p.1 p.2 List.mem_cons_self
    obtain ⟨e9, g9⟩ := xhm_ok hn h0 gv
    obtain ⟨σ', h1, h2⟩ := ih (n := n + 1) (σ := xup σ n e9) (by omega) (by rw [xup_lt hn]; exact h0) (fun k h hk => g k h (List.mem_cons_of_mem _ hk))
    refine ⟨σ', fun t ht => by rw [h1 t (by omega), xup_lt ht], fun k q hq => ?_⟩
    rw [List.length_cons, show n + (fs.length + 1) = n + 1 + fs.length by omega]
    rcases List.mem_cons.mp hq with e | e
    · cases e
      unfold xfact
      rw [if_pos hlt]
      exact ⟨hone, v, hget, xvG_up (fun t ht => h1 t ht) (by omega) g9⟩
    · exact h2 k q e
noncomputable def xhsL (X : xD) (A : List (Option xv)) (l : List (Option xh)) : Bool := match A, l with
  | [], [] => true
  | _ :: r, none :: s => xhsL X r s
  | some q :: r, some h :: s => bif xhs X q h then xhsL X r s else false
  | _, _ => false
theorem xhsL_ok {m : Int} {σ : Nat → Int} {n : Nat} (hm : m ≤ 2147483646) : ∀ {L : List (Option Value)} {A : List (Option xv)} {l : List (Option xh)}, xhsL X A l = true → xlG X m σ n L A → xhL X m L l := by
  intro L
  induction L with
  | nil =>
    intro A l h g
    match A, l, h, g with
    | [], [], _, _ => exact trivial
  | cons o L ih =>
    intro A l h g
    match A, l, h, g with
    | _ :: r, none :: s, h, g => exact ⟨fun q hq => (by cases hq), ih h g.2⟩
    | some q :: r, some h9 :: s, h, g =>
      obtain ⟨h1, h2⟩ := x_and h
      obtain ⟨v, e, gv⟩ := g.1
      exact ⟨fun q hq => by cases hq; exact ⟨v, e, xhs_ok hm h1 gv⟩, ih h2 g.2⟩
noncomputable def xhsV (X : xD) (A : List xv) (l : List xh) : Bool := match A, l with
  | [], [] => true
  | q :: r, h :: s => bif xhs X q h then xhsV X r s else false
  | _, _ => false
theorem xhsV_ok {m : Int} {σ : Nat → Int} {n : Nat} (hm : m ≤ 2147483646) : ∀ {L : List Value} {A : List xv} {l : List xh}, xhsV X A l = true → xsG X m σ n L A → xhV X m L l := by
  intro L
  induction L with
  | nil =>
    intro A l h g
    match A, l, h, g with
    | [], [], _, _ => exact trivial
  | cons o L ih =>
    intro A l h g
    match A, l, h, g with
    | q :: r, h9 :: s, h, g =>
      obtain ⟨h1, h2⟩ := x_and h
      exact ⟨xhs_ok hm h1 g.1, ih h2 g.2⟩
noncomputable def xhsF (X : xD) (fs : List (Nat × xv)) (l : List (Nat × xh)) : Bool := l.all (fun p => bif Nat.blt p.1 17592186044416 then (match xlook fs p.1 with
  | some q => xhs X q p.2
  | none => false) else false)
theorem xhsF_ok {m : Int} {σ : Nat → Int} {n : Nat} {ph : pm_H} {fs : List (Nat × xv)} {l : List (Nat × xh)} (hm : m ≤ 2147483646) (h : xhsF X fs l = true) (g : xfG X m σ n ph fs) : xhF X m ph l := fun k h9 hk => by
  have h1 := List.all_eq_true.mp h _ hk
  have hlt : k < 17592186044416 := Nat.le_of_ble_eq_true (x_and h1).1
  replace h1 := (x_and h1).2
  split at h1
  · next q hq =>
    have g9 := g _ _ (xlook_mem hq)
    unfold xfact at g9
    rw [if_pos hlt] at g9
    obtain ⟨h2, v, h3, h4⟩ := g9
    exact ⟨hlt, h2, v, h3, xhs_ok hm h1 h4⟩
  · cases h1
/-! what falls -/
def xmv (L : List (Option Value)) (ph : pm_H) (e : Bool × Nat) : Int := match e with
  | (true, k) => (match xget ph (k / 4096) (k % 4096) with
    | some (.int x) => x.toInt
    | _ => 0)
  | (false, i) => (match L[i]? with
    | some (some (.int x)) => x.toInt
    | _ => 0)
def xmuT (L : List (Option Value)) (ph : pm_H) (l : List (Int × Bool × Nat)) : Int := match l with
  | [] => 0
  | p :: r => p.1 * xmv L ph p.2 + xmuT L ph r
def xmu (L : List (Option Value)) (ph : pm_H) (e : xm) : Int := e.1 + xmuT L ph e.2
noncomputable def xmt (S : xS) (e : Bool × Nat) : Option xi := match S with
  | (_, A, _, fs, _, _) => match e with
    | (true, k) => bif Nat.blt k 17592186044416 then (match xlook fs k with
      | some (.inl q) => some q
      | _ => none) else none
    | (false, i) => (match fo_nth A i with
      | some (some (.inl q)) => some q
      | _ => none)
theorem xmt_ok {m : Int} {n0 : Nat} {σ0 σ : Nat → Int} {S : xS} {L : List (Option Value)} {st : List Value} {ph : pm_H} {Fc : xFc} {e : Bool × Nat} {q : xi} (h : xmt S e = some q) (g : xg X KC E m n0 σ0 S σ L st ph Fc) : xiG σ S.1 (xmv L ph e) q := by
  obtain ⟨n, A, sa, fs, w, F⟩ := S
  obtain ⟨g1, g2, g3, g4, g5, g6, g7, g8, g9⟩ := g
  match e, h with
  | (true, k), h =>
    unfold xmt at h
    simp only at h
    cases hlt : Nat.blt k 17592186044416 with
    | false => rw [hlt] at h; cases h
    | true =>
    rw [hlt] at h
    simp only [cond_true] at h
    split at h
    · next q hq =>
      cases h
      have g99 := g6 _ _ (xlook_mem hq)
      unfold xfact at g99
      rw [if_pos (show k < 17592186044416 from Nat.le_of_ble_eq_true hlt)] at g99
      obtain ⟨-, v, h1, x, e, gx⟩ := g99
      subst e
      unfold xmv
      simp only [h1]
      exact gx
    · cases h
  | (false, i), h =>
    unfold xmt at h
    simp only at h
    split at h
    · next q hq =>
      cases h
      obtain ⟨v, h1, x, e, gx⟩ := xlG_nth g4 hq
      subst e
      unfold xmv
      simp only [h1]
      exact gx
    · cases h
/-- sums of numbers times names: times, name, its least, its most -/
abbrev xl : Type := List (Int × Nat × Int × Int)
def xlv (σ : Nat → Int) (l : xl) : Int := match l with
  | [] => 0
  | p :: r => p.1 * σ p.2.1 + xlv σ r
def xlb (σ : Nat → Int) (l : xl) : Prop := ∀ p ∈ l, p.2.2.1 ≤ σ p.2.1 ∧ σ p.2.1 ≤ p.2.2.2
def xlins (k : Int) (t : Nat) (a b : Int) (l : xl) : xl := match l with
  | [] => [(k, t, a, b)]
  | p :: r => bif Nat.beq p.2.1 t then (Int.add p.1 k, t, zmax p.2.2.1 a, zmin p.2.2.2 b) :: r else p :: xlins k t a b r
theorem xlins_ok {σ : Nat → Int} {k a b : Int} {t : Nat} (h1 : a ≤ σ t) (h2 : σ t ≤ b) : ∀ {l : xl}, xlb σ l → xlv σ (xlins k t a b l) = xlv σ l + k * σ t ∧ xlb σ (xlins k t a b l) := by
  intro l
  induction l with
  | nil =>
    intro _
    refine ⟨?_, fun p hp => ?_⟩
    · show k * σ t + 0 = 0 + k * σ t
      omega
    · rcases List.mem_cons.mp hp with e | e
      · subst e; exact ⟨h1, h2⟩
      · cases e
  | cons p r ih =>
    intro hb
    have hp := hb p List.mem_cons_self
    have hr : xlb σ r := fun q hq => hb q (List.mem_cons_of_mem _ hq)
    unfold xlins
    cases e : Nat.beq p.2.1 t with
    | true =>
      have := Nat.eq_of_beq_eq_true e
      subst this
      refine ⟨?_, fun q hq => ?_⟩
      · show (p.1 + k) * σ p.2.1 + xlv σ r = p.1 * σ p.2.1 + xlv σ r + k * σ p.2.1
        rw [Int.add_mul]
        omega
      · rcases List.mem_cons.mp hq with e | e
        · subst e; exact ⟨zmax_le hp.1 h1, zmin_le hp.2 h2⟩
        · exact hr q e
    | false =>
      obtain ⟨i1, i2⟩ := ih hr
      refine ⟨?_, fun q hq => ?_⟩
      · show p.1 * σ p.2.1 + xlv σ (xlins k t a b r) = p.1 * σ p.2.1 + xlv σ r + k * σ t
        rw [i1]
        omega
      · rcases List.mem_cons.mp hq with e | e
        · subst e; exact hp
        · exact i2 q e
def xlmin (l : xl) : Int := match l with
  | [] => 0
  | p :: r => Int.add (bif zle 0 p.1 then Int.mul p.1 p.2.2.1 else Int.mul p.1 p.2.2.2) (xlmin r)
theorem xlmin_ok {σ : Nat → Int} : ∀ {l : xl}, xlb σ l → xlmin l ≤ xlv σ l := by
  intro l
  induction l with
  | nil => intro _; exact Int.le_refl _
  | cons p r ih =>
    intro hb
    have hp := hb p List.mem_cons_self
    have hr := ih (fun q hq => hb q (List.mem_cons_of_mem _ hq))
    have key : (bif zle 0 p.1 then Int.mul p.1 p.2.2.1 else Int.mul p.1 p.2.2.2) ≤ p.1 * σ p.2.1 := by
      cases h : zle 0 p.1 with
      | true => exact Int.mul_le_mul_of_nonneg_left hp.1 (zle_le h)
      | false =>
        have := zle_f h
        exact Int.mul_le_mul_of_nonpos_left (by omega) hp.2
    show (bif zle 0 p.1 then Int.mul p.1 p.2.2.1 else Int.mul p.1 p.2.2.2) + xlmin r ≤ p.1 * σ p.2.1 + xlv σ r
    omega
/-- terms of a state, sgn times -/
noncomputable def xmlin (sgn : Int) (S : xS) (ts : List (Int × Bool × Nat)) (acc : Int × xl) : Option (Int × xl) := match ts with
  | [] => some acc
  | p :: r => (match xmt S p.2 with
    | some (t, c, l, h) => xmlin sgn S r (Int.add acc.1 (Int.mul (Int.mul sgn p.1) c), xlins (Int.mul sgn p.1) t (Int.sub l c) (Int.sub h c) acc.2)
    | none => none)
theorem xmlin_ok {σ : Nat → Int} {n : Nat} {sgn : Int} {S : xS} {L : List (Option Value)} {ph : pm_H} (hv : ∀ e q, xmt S e = some q → xiG σ n (xmv L ph e) q) : ∀ {ts : List (Int × Bool × Nat)} {acc r : Int × xl}, xmlin sgn S ts acc = some r → xlb σ acc.2 → xlb σ r.2 ∧ r.1 + xlv σ r.2 = acc.1 + xlv σ acc.2 + sgn * xmuT L ph ts := by
  intro ts
  induction ts with
  | nil =>
    intro acc r h hb
    cases h
    refine ⟨hb, ?_⟩
    show _ = _ + sgn * 0
    omega
  | cons p ts ih =>
    intro acc r h hb
    unfold xmlin at h
    split at h
    · next t c l h9 hq =>
      obtain ⟨q1, q2, q3, q4⟩ := hv _ _ hq
      simp only at q1 q2 q3 q4
      have e1 : Int.sub l c = l - c := rfl
      have e2 : Int.sub h9 c = h9 - c := rfl
      obtain ⟨i1, i2⟩ := xlins_ok (k := Int.mul sgn p.1) (show Int.sub l c ≤ σ t by omega) (show σ t ≤ Int.sub h9 c by omega) hb
      obtain ⟨j1, j2⟩ := ih h i2
      refine ⟨j1, ?_⟩
      rw [j2]
      show acc.1 + sgn * p.1 * c + xlv σ (xlins (Int.mul sgn p.1) t (Int.sub l c) (Int.sub h9 c) acc.2) + sgn * xmuT L ph ts = acc.1 + xlv σ acc.2 + sgn * (p.1 * xmv L ph p.2 + xmuT L ph ts)
      rw [i1, q2]
      show acc.1 + sgn * p.1 * c + (xlv σ acc.2 + sgn * p.1 * σ t) + sgn * xmuT L ph ts = acc.1 + xlv σ acc.2 + sgn * (p.1 * (σ t + c) + xmuT L ph ts)
      rw [Int.mul_add, ← Int.mul_assoc, Int.mul_add]
      omega
    · cases h
def xnsn (nd : xnd) : Nat := 1 + nd.2.1.length + nd.2.2.1.length
def xnS (nd : xnd) : xS := (1 + nd.2.1.length + nd.2.2.1.length, xhmL 1 nd.2.1, [], xhmF (1 + nd.2.1.length) nd.2.2.1, nd.2.2.2.1, [])
/-- does what falls fall -/
noncomputable def xfall (S0 : xS) (src dst : xm) (S : xS) : Bool := match xmlin 1 S0 src.2 (Int.sub (Int.sub src.1 dst.1) 1, []) with
  | some a => (match xmlin (-1) S dst.2 a with
    | some b => bif zle 0 (Int.add b.1 (xlmin b.2)) then (match xmlin 1 S dst.2 (dst.1, []) with
      | some c => zle 0 (Int.add c.1 (xlmin c.2))
      | none => false) else false
    | none => false)
  | none => false
noncomputable def xnin (X : xD) (S0 : xS) (src nd : xnd) (S : xS) : Bool := match S with
  | (n, A, sa, fs, w, F) => match sa with
    | [] => bif xhsL X A nd.2.1 then bif xhsF X fs nd.2.2.1 then bif Nat.ble nd.2.2.2.1 w then xfall S0 src.2.2.2.2 nd.2.2.2.2 (n, A, sa, fs, w, F) else false else false else false
    | _ => false
/-- a field's bounds by its kind, if nothing is known of it -/
noncomputable def xseed (X : xD) (k : Nat) (S : xS) : xS := match S with
  | (n, A, sa, fs, w, F) => match xlook fs k with
    | some _ => (n, A, sa, fs, w, F)
    | none => (match X.1 (Nat.div k 4096) with
      | some i => (match X.2.1 i with
        | some (some a, .inr (_, fts)) => bif (bif Nat.beq a (Nat.div k 4096) then Nat.blt k 17592186044416 else false) then (match fo_nth fts (Nat.mod k 4096) with
          | some (.inl (l, h)) => (n + 1, A, sa, (k, .inl (n, 0, l, h)) :: fs, w, F)
          | _ => (n, A, sa, fs, w, F)) else (n, A, sa, fs, w, F)
        | _ => (n, A, sa, fs, w, F))
      | none => (n, A, sa, fs, w, F))
noncomputable def xspn (q : xi) (S : xS) (f : xS → Bool) : Nat → Int → Bool
  | 0, v => f (xcl1 q v v S)
  | c + 1, v => bif f (xcl1 q v v S) then xspn q S f c (Int.add v 1) else false
noncomputable def xspl (X : xD) (e : Option (Bool × Nat)) (S : xS) (f : xS → Bool) : Bool := match e with
  | none => f S
  | some e => (match (match e with
    | (true, k) => xseed X k S
    | _ => S) with
    | T => (match xmt T e with
      | some q => xspn q T f (Int.sub q.2.2.2 q.2.2.1).toNat q.2.2.1
      | none => false))
/-- heads by chunks, each with the numbers of those that may follow -/
abbrev xns : Type := List (List (xnd × List Nat))
noncomputable def xncut (X : xD) (sp : Nat → Option (Bool × Nat)) (cps : List Nat) (ns : xns) (cs : List Nat) (S0 : xS) (src : xnd) : xcut := fun pc => bif xmemN cps pc then some (fun S => xspl X (sp pc) S (fun S => cs.any (fun i => match pm_nth2 ns i with
  | some nd => bif Nat.beq nd.1.1 pc then xnin X S0 src nd.1 S else false
  | none => false))) else none
noncomputable def xrs0 (X : xD) (res : Option xh) (fq : List (Nat × xh)) : xr := fun v S => match S with
  | (_, _, _, fs, _, _) => bif xhsF X fs fq then (match v, res with
    | none, none => true
    | some q, some h => xhs X q h
    | _, _ => false) else false
noncomputable def xnchk (X : xD) (sp : Nat → Option (Bool × Nat)) (T : List (Nat × xb)) (cps : List Nat) (ns : xns) (res : Option xh) (fq : List (Nat × xh)) (f : Nat) (nd : xnd × List Nat) : Bool := xrunT T (xncut X sp cps ns nd.2 (xnS nd.1) nd.1) (xrs0 X res fq) f nd.1.1 (xnS nd.1)
def xhR (X : xD) (m : Int) (v : Option Value) (res : Option xh) : Prop := match res with
  | none => v = none
  | some h => ∃ u, v = some u ∧ xhG X m u h
/-- a method's contract: arguments, cells known, hours, answer -/
def xcon (X : xD) (KC : pm_K) (E : pm_H → Prop) (d j : Nat) (pre : List xh) (fp : List (Nat × xh)) (W : Nat) (res : Option xh) (fq : List (Nat × xh)) : Prop := ∀ D, d ≤ D → ∀ m : Int, m ≤ 2147483646 → (W : Int) ≤ m → ∀ vs ph, xhV X m vs pre → xhF X m ph fp → xH X KC m W ph → E ph → ∃ v ph', pm_Rd KC false D j vs ph (v, ph', 0, 0) ∧ xH X KC m 0 ph' ∧ E ph' ∧ xhR X m v res ∧ xhF X m ph' fq
theorem xnS_ok {m : Int} {nd : xnd} {L : List (Option Value)} {ph : pm_H} (hw : (nd.2.2.2.1 : Int) ≤ m) (h1 : xhL X m L nd.2.1) (h2 : xhF X m ph nd.2.2.1) (h3 : xH X KC m nd.2.2.2.1 ph) (h4 : E ph) : ∃ σ0, xg X KC E m (xnsn nd) σ0 (xnS nd) σ0 L [] ph [] := by
  obtain ⟨σ1, a1, a2⟩ := xhmL_ok (n := 1) (σ := fun _ => 0) (by decide) rfl h1
  obtain ⟨σ2, b1, b2⟩ := xhmF_ok (n := 1 + nd.2.1.length) (σ := σ1) (by omega) (by rw [a1 0 (by decide)]) h2
  refine ⟨σ2, Nat.le_refl _, fun _ _ => rfl, ⟨by unfold xnsn; omega, by rw [b1 0 (by omega), a1 0 (by decide)], hw⟩, xlG_up b1 (by omega) a2, trivial, b2, h3, trivial, h4⟩
theorem xfall_ok {m : Int} {n0 : Nat} {σ0 σ : Nat → Int} {S0 S : xS} {src dst : xm} {L0 L : List (Option Value)} {st0 st : List Value} {ph0 ph : pm_H} {Fc0 Fc : xFc} (h : xfall S0 src dst S = true) (g0 : xg X KC E m n0 σ0 S0 σ0 L0 st0 ph0 Fc0) (hn : S0.1 = n0) (g : xg X KC E m n0 σ0 S σ L st ph Fc) : 0 ≤ xmu L ph dst ∧ xmu L ph dst < xmu L0 ph0 src := by
  unfold xfall at h
  split at h
  · next a ha =>
    split at h
    · next b hb =>
      have hz := (x_and h).1
      replace h := (x_and h).2
      split at h
      · next c hc =>
        have hagree : ∀ t, t < n0 → σ t = σ0 t := by
          obtain ⟨n, A, sa, fs, w, F⟩ := S
          exact g.2.1
        have v0 : ∀ e q, xmt S0 e = some q → xiG σ n0 (xmv L0 ph0 e) q := fun e q hq => by
          have := xmt_ok hq g0
          rw [hn] at this
          exact xiG_up hagree (Nat.le_refl _) this
        have v1 : ∀ e q, xmt S e = some q → xiG σ S.1 (xmv L ph e) q := fun e q hq => xmt_ok hq g
        have b0 : xlb σ [] := fun p hp => by cases hp
        obtain ⟨a1, a2⟩ := xmlin_ok v0 ha b0
        obtain ⟨b1, b2⟩ := xmlin_ok v1 hb a1
        obtain ⟨c1, c2⟩ := xmlin_ok v1 hc b0
        have b3 := xlmin_ok b1
        have c3 := xlmin_ok c1
        have z1 : 0 ≤ b.1 + xlmin b.2 := zle_le hz
        have z2 : 0 ≤ c.1 + xlmin c.2 := zle_le h
        have e0 : xlv σ ([] : xl) = 0 := rfl
        have e1 : Int.sub (Int.sub src.1 dst.1) 1 = src.1 - dst.1 - 1 := rfl
        simp only [e0, e1] at a2 c2
        unfold xmu
        omega
      · cases h
    · cases h
  · cases h
theorem xseed_ok {m : Int} {n0 k : Nat} {σ0 σ : Nat → Int} {S : xS} {L : List (Option Value)} {st : List Value} {ph : pm_H} {Fc : xFc} (g : xg X KC E m n0 σ0 S σ L st ph Fc) : ∃ σ', xg X KC E m n0 σ0 (xseed X k S) σ' L st ph Fc := by
  obtain ⟨n, A, sa, fs, w, F⟩ := S
  unfold xseed
  simp only
  split
  · exact ⟨σ, g⟩
  · split
    · next i hi =>
      split
      · next a ci fts hct =>
        cases hb : (bif Nat.beq a (Nat.div k 4096) then Nat.blt k 17592186044416 else false) with
        | false => exact ⟨σ, g⟩
        | true =>
          obtain ⟨b1, b2⟩ := x_and hb
          have b1 : a = k / 4096 := Nat.eq_of_beq_eq_true b1
          have b2 : k < 17592186044416 := Nat.le_of_ble_eq_true b2
          simp only [cond_true]
          split
          · next l h hft =>
            obtain ⟨g1, g2, g3, g4, g5, g6, g7, g8, g9⟩ := g
            obtain ⟨s2, t2, h1, h2, h3⟩ := g7 _ i hi
            rw [hct] at h1
            cases h1
            obtain ⟨fl, hat, hfl⟩ := h3
            rw [fo_nth_eq] at hft
            obtain ⟨v, hv, x, e, c1, c2⟩ := hfl _ _ hft
            subst e
            have u1 : ∀ t, t < n → xup σ n x.toInt t = σ t := fun t ht => xup_lt ht
            have hget : xget ph (k / 4096) (k % 4096) = some (.int x) := by
              unfold xget
              show (match pm_at ph (Nat.div k 4096) with
                | some (.inr (_, fl)) => fl[k % 4096]?
                | some (.inl (0, .inl l)) => (l[k % 4096]?).map .int
                | _ => none) = _
              rw [hat]
              exact hv
            have hc := xfG_cons (k := k % 4096) (Nat.mod_lt _ (by decide)) hi (by rw [hct, b1]; rfl) hget (xvI (xfresh c1 c2)) (xfG_up u1 (Nat.le_succ n) g6)
            have ek : k / 4096 * 4096 + k % 4096 = k := by omega
            have ek2 : Nat.div k 4096 * 4096 + k % 4096 = k := ek
            rw [ek2] at hc
            exact ⟨xup σ n x.toInt, by omega, fun t ht => by rw [u1 t (by omega)]; exact g2 t ht, g3, xlG_up u1 (by omega) g4, xsG_up u1 (by omega) g5, hc, g7, xFG_up u1 (by omega) g8, g9⟩
          · exact ⟨σ, g⟩
      · exact ⟨σ, g⟩
    · exact ⟨σ, g⟩
theorem xspn_ok {m : Int} {n0 : Nat} {σ0 σ : Nat → Int} {S : xS} {L : List (Option Value)} {st : List Value} {ph : pm_H} {Fc : xFc} {f : xS → Bool} {q : xi} {x : Int} {n : Nat} (g : xg X KC E m n0 σ0 S σ L st ph Fc) (gx : xiG σ n x q) : ∀ (c : Nat) (v : Int), xspn q S f c v = true → v ≤ x → x ≤ v + c → ∃ T, f T = true ∧ xg X KC E m n0 σ0 T σ L st ph Fc := by
  intro c
  induction c with
  | zero =>
    intro v h h1 h2
    have : v = x := by omega
    subst this
    exact ⟨_, h, xcl1_ok gx (Int.le_refl _) (Int.le_refl _) g⟩
  | succ c ih =>
    intro v h h1 h2
    unfold xspn at h
    obtain ⟨h3, h4⟩ := x_and h
    by_cases e : v = x
    · subst e
      exact ⟨_, h3, xcl1_ok gx (Int.le_refl _) (Int.le_refl _) g⟩
    · exact ih (v + 1) h4 (by omega) (by omega)
theorem xspl_ok {m : Int} {n0 : Nat} {σ0 σ : Nat → Int} {e : Option (Bool × Nat)} {S : xS} {L : List (Option Value)} {st : List Value} {ph : pm_H} {Fc : xFc} {f : xS → Bool} {P : Prop} (hm : m ≤ 2147483646) (h : xspl X e S f = true) (g : xg X KC E m n0 σ0 S σ L st ph Fc) (kk : ∀ T σ', f T = true → xg X KC E m n0 σ0 T σ' L st ph Fc → P) : P := by
  unfold xspl at h
  split at h
  · exact kk S σ h g
  · next e =>
    have key : ∀ T, (∃ σ', xg X KC E m n0 σ0 T σ' L st ph Fc) → (match xmt T e with
      | some q => xspn q T f (Int.sub q.2.2.2 q.2.2.1).toNat q.2.2.1
      | none => false) = true → P := fun T hT h => by
      obtain ⟨σ', g'⟩ := hT
      split at h
      · next q hq =>
        have gx := xmt_ok hq g'
        obtain ⟨-, -, c1, c2⟩ := gx
        have e9 : Int.sub q.2.2.2 q.2.2.1 = q.2.2.2 - q.2.2.1 := rfl
        obtain ⟨T2, h1, h2⟩ := xspn_ok g' (xmt_ok hq g') _ _ h c1 (by rw [e9]; omega)
        exact kk T2 σ' h1 h2
      · cases h
    match e, h, key with
    | (true, k), h, key => exact key _ (xseed_ok g) h
    | (false, i), h, key => exact key _ ⟨σ, g⟩ h
def xslh (vs : List xh) : List (Option xh) := match vs with
  | [] => []
  | v :: t => match v with
    | .inr (.inl q) => some (.inr (.inl q)) :: none :: xslh t
    | w => some w :: xslh t
def xpadh : Nat → List (Option xh)
  | 0 => []
  | n + 1 => none :: xpadh n
theorem xslh_ok {m : Int} : ∀ {st : List Value} {sa : List xh}, xhV X m st sa → xhL X m (pm_sl st) (xslh sa) := by
  intro st
  induction st with
  | nil => intro sa g; cases sa with | nil => exact trivial | cons _ _ => exact g.elim
  | cons v st ih =>
    intro sa g
    cases sa with
    | nil => exact g.elim
    | cons a sa =>
      obtain ⟨gv, g⟩ := g
      match a, gv with
      | .inl q, ⟨x, e, gx⟩ => subst e; exact ⟨fun q hq => by cases hq; exact ⟨_, rfl, x, rfl, gx⟩, ih g⟩
      | .inr (.inl q), ⟨x, e, gx⟩ => subst e; exact ⟨fun q hq => (by cases hq; exact ⟨_, rfl, x, rfl, gx⟩), fun q hq => (by cases hq), ih g⟩
      | .inr (.inr (.inl u)), ⟨x, i, e, gx⟩ => subst e; exact ⟨fun q hq => by cases hq; exact ⟨_, rfl, x, i, rfl, gx⟩, ih g⟩
      | .inr (.inr (.inr k)), ⟨x, e, gx⟩ => subst e; exact ⟨fun q hq => by cases hq; exact ⟨_, rfl, x, rfl, gx⟩, ih g⟩
theorem xhL_len {m : Int} : ∀ {L : List (Option Value)} {A : List (Option xh)}, xhL X m L A → L.length = A.length := by
  intro L
  induction L with
  | nil => intro A g; cases A with | nil => rfl | cons _ _ => exact g.elim
  | cons o L ih =>
    intro A g
    cases A with
    | nil => exact g.elim
    | cons a A => rw [List.length_cons, List.length_cons, ih g.2]
theorem xpadh_ok {m : Int} : ∀ (k : Nat), xhL X m (List.replicate k none) (xpadh k) := by
  intro k
  induction k with
  | zero => exact trivial
  | succ k ih => rw [List.replicate_succ]; exact ⟨fun q hq => (by cases hq), ih⟩
theorem xhL_app {m : Int} : ∀ {L M : List (Option Value)} {A B : List (Option xh)}, xhL X m L A → xhL X m M B → xhL X m (L ++ M) (A ++ B) := by
  intro L
  induction L with
  | nil => intro M A B g h; cases A with | nil => exact h | cons _ _ => exact g.elim
  | cons o L ih =>
    intro M A B g h
    cases A with
    | nil => exact g.elim
    | cons a A => exact ⟨g.1, ih g.2 h⟩
def xenth (nl : Nat) (as : List xh) : List (Option xh) := xslh as ++ xpadh (nl - (xslh as).length)
/-- a method by its heads -/
theorem xnodes_ok {d j nl f W : Nat} {sp : Nat → Option (Bool × Nat)} {T : List (Nat × xb)} {cps cs0 : List Nat} {ns : xns} {pre : List xh} {fp fq : List (Nat × xh)} {res : Option xh} {mu0 : xm} (hs : (pm_sig KC j).2.1 = nl) (hnl : Nat.ble (xslh pre).length nl = true) (hT : ∀ q ∈ T, xok X KC KC E d j q.1 q.2) (h0 : pm_nth2 ns 0 = some ((0, xenth nl pre, fp, W, mu0), cs0)) (hchk : ∀ c ∈ ns, ∀ nd ∈ c, xnchk X sp T cps ns res fq f nd = true) : xcon X KC E (d + 1) j pre fp W res fq := by
  intro D hD m hm hW vs ph hv hf hP hE
  cases D with
  | zero => omega
  | succ D =>
    have key : ∀ (N : Nat) (nd : xnd) (cs : List Nat), (∃ c ∈ ns, (nd, cs) ∈ c) → ∀ (L : List (Option Value)) (ph : pm_H), (nd.2.2.2.1 : Int) ≤ m → xhL X m L nd.2.1 → xhF X m ph nd.2.2.1 → xH X KC m nd.2.2.2.1 ph → E ph → (xmu L ph nd.2.2.2.2).toNat < N → xGT KC D j (fun v ph' => xH X KC m 0 ph' ∧ E ph' ∧ xhR X m v res ∧ xhF X m ph' fq) (nd.1, L, [], ph, 0, 0) := by
      intro N
      induction N with
      | zero => intro nd cs _ L ph _ _ _ _ _ h; omega
      | succ N ih =>
        intro nd cs hnd L ph hw h1 h2 h3 h4 hmu
        obtain ⟨σ0, hg⟩ := xnS_ok hw h1 h2 h3 h4
        obtain ⟨c9, hc9, hnd9⟩ := hnd
        have hc := hchk c9 hc9 _ hnd9
        unfold xnchk at hc
        refine xrunT_ok hT (D := D) (by omega) hm (xGT_bk D j _) ?_ ?_ f nd.1 _ hc σ0 L [] ph hg
        · intro pc' h9 S hcut hS σ L' st' ph' hg'
          unfold xncut at hcut
          obtain ⟨-, hcut⟩ := x_bs hcut
          subst hcut
          refine xspl_ok hm hS hg' fun S σ hS hg' => ?_
          obtain ⟨ix, -, hin⟩ := List.any_eq_true.mp hS
          split at hin
          case h_2 => cases hin
          next ndc hndc =>
          obtain ⟨nd', cs'⟩ := ndc
          have hnd' := pm_nth2_mem hndc
          have hpc := (x_and hin).1
          replace hin := (x_and hin).2
          have hpc := Nat.eq_of_beq_eq_true hpc
          subst hpc
          obtain ⟨n, A, sa, fs, w, F⟩ := S
          unfold xnin at hin
          simp only at hin
          split at hin
          · next hsa =>
            obtain ⟨i1, hin⟩ := x_and hin
            obtain ⟨i2, hin⟩ := x_and hin
            obtain ⟨i3, i4⟩ := x_and hin
            have i3 := Nat.le_of_ble_eq_true i3
            obtain ⟨m1, m2⟩ := xfall_ok i4 hg rfl hg'
            obtain ⟨g1, g2, g3, g4, g5, g6, g7, g8, g9⟩ := hg'
            have hst : st' = [] := by
              cases st' with
              | nil => rfl
              | cons _ _ => exact g5.elim
            subst hst
            exact ih nd' cs' hnd' L' ph' (by have := g3.2.2; omega) (xhsL_ok hm i1 g4) (xhsF_ok hm i2 g6) (xH_w i3 g7) g9 (by omega)
          · cases hin
        · intro v S hr σ L' st' ph' vv hg' ho
          obtain ⟨n, A, sa, fs, w, F⟩ := S
          obtain ⟨g1, g2, g3, g4, g5, g6, g7, g8, g9⟩ := hg'
          unfold xrs0 at hr
          simp only at hr
          have hfq := (x_and hr).1
          replace hr := (x_and hr).2
          refine ⟨xH_w (Nat.zero_le _) g7, g9, ?_, xhsF_ok hm hfq g6⟩
          split at hr
          · exact ho
          · obtain ⟨u, e, gu⟩ := ho
            exact ⟨u, e, xhs_ok hm hr gu⟩
          · cases hr
    have g1 := xslh_ok hv
    have g2 := xhL_len g1
    have hL : xhL X m (pm_sl vs ++ List.replicate ((pm_sig KC j).2.1 - (pm_sl vs).length) none) (xenth nl pre) := by
      unfold xenth
      rw [hs, g2]
      exact xhL_app g1 (xpadh_ok _)
    obtain ⟨n9, v, ph2, k1, k2, k3, k4, k5⟩ := key _ _ _ (pm_nth2_mem h0) _ ph hW hL hf hP hE (Nat.lt_succ_self _)
    refine ⟨v, ph2, ⟨?_, n9, k1⟩, k2, k3, k4, k5⟩
    unfold pm_entB
    rw [hs, g2]
    exact hnl
theorem xeG_sh {m : Int} {w e : Nat} {x : Int} {t : xe} (h : e ≤ w) (g : xeG m w x t) : xeG (m - e) (w - e) x t := by
  match t, g with
  | some p, g => exact g
  | none, g => exact ⟨g.1, by have := g.2; omega⟩
theorem xeG_hs {m : Int} {w e : Nat} {x : Int} {t : xe} (g : xeG (m - e) w x t) : xeG m (w + e) x t := by
  match t, g with
  | some p, g => exact g
  | none, g => exact ⟨g.1, by have := g.2; omega⟩
theorem xcG_map {K : pm_K} {m m' : Int} {w w' : Nat} {ph : pm_H} {a : Nat} {t : xt} (f : ∀ x e, xeG m w x e → xeG m' w' x e) (g : xcG X K m w ph a t) : xcG X K m' w' ph a t := by
  unfold xcG at g ⊢
  split at g
  · obtain ⟨l, h1, h2, h3⟩ := g; exact ⟨l, h1, h2, fun i x hx => f _ _ (h3 i x hx)⟩
  · exact g
  · exact g
  · exact g
  · obtain ⟨h0, l, h1, h2⟩ := g
    exact ⟨h0, l, h1, fun i hi => by obtain ⟨x, h3, h4⟩ := h2 i hi; exact ⟨x, h3, f _ _ h4⟩⟩
  · obtain ⟨h0, l, h1, h2⟩ := g
    exact ⟨h0, l, h1, fun i hi => by obtain ⟨x, h3, h4⟩ := h2 i hi; exact ⟨x, h3, f _ _ h4⟩⟩
  · exact g
  · exact g
theorem xH_map {K : pm_K} {m m' : Int} {w w' : Nat} {ph : pm_H} (f : ∀ x e, xeG m w x e → xeG m' w' x e) (g : xH X K m w ph) : xH X K m' w' ph := fun a i hi => by
  obtain ⟨s, t, h1, h2, h3⟩ := g a i hi
  exact ⟨s, t, h1, h2, xcG_map f h3⟩
/-- shapes without hours -/
def xhn (h : xh) : Bool := match h with
  | .inr (.inr (.inr _)) => false
  | _ => true
theorem xhn_ok {m m' : Int} {v : Value} {h : xh} (hh : xhn h = true) (g : xhG X m v h) : xhG X m' v h := by
  match h, hh, g with
  | .inl p, _, g => exact g
  | .inr (.inl _), _, g => exact g
  | .inr (.inr (.inl u)), _, g => exact g
theorem xhV_map {m m' : Int} : ∀ {L : List Value} {l : List xh}, l.all xhn = true → xhV X m L l → xhV X m' L l := by
  intro L
  induction L with
  | nil => intro l h g; cases l with | nil => exact trivial | cons _ _ => exact g.elim
  | cons o L ih =>
    intro l h g
    cases l with
    | nil => exact g.elim
    | cons a l =>
      rw [List.all_cons] at h
      obtain ⟨h1, h2⟩ := pm_and h
      exact ⟨xhn_ok h1 g.1, ih h2 g.2⟩
theorem xhF_map {m m' : Int} {ph : pm_H} {l : List (Nat × xh)} (h : l.all (fun p => xhn p.2) = true) (g : xhF X m ph l) : xhF X m' ph l := fun k h9 hk => by
  obtain ⟨f0, f1, v, f2, f3⟩ := g k h9 hk
  exact ⟨f0, f1, v, f2, xhn_ok (List.all_eq_true.mp h _ hk) f3⟩
/-- a contract, used within a state: what runs and what is known behind it -/
theorem xcon_use {d j W w n : Nat} {pre : List xh} {fp fq : List (Nat × xh)} {res : Option xh} {E2 : pm_H → Prop} (hn : pre.all xhn = true) (hn2 : fp.all (fun p => xhn p.2) = true) (hn3 : res.all xhn = true) (hn4 : fq.all (fun p => xhn p.2) = true) (h : xcon X KC E2 d j pre fp W res fq) {D : Nat} (hD : d ≤ D) {m : Int} (hm : m ≤ 2147483646) (hw : (w : Int) ≤ m) {σ : Nat → Int} {vs : List Value} {as : List xv} {fs : List (Nat × xv)} {ph : pm_H} (c1 : xhsV X as pre = true) (c2 : xhsF X fs fp = true) (c3 : W ≤ w) (hv : xsG X m σ n vs as) (g6 : xfG X m σ n ph fs) (g7 : xH X KC m w ph) (g9 : E2 ph) : ∃ v ph', pm_Rd KC false D j vs ph (v, ph', 0, 0) ∧ xH X KC m (w - W) ph' ∧ E2 ph' ∧ xhR X m v res ∧ xhF X m ph' fq := by
  have e1 : w - (w - W) = W := by omega
  have hP2 : xH X KC (m - ((w - W : Nat) : Int)) W ph := by
    have := xH_map (fun x e g => xeG_sh (show w - W ≤ w by omega) g) g7
    rw [e1] at this
    exact this
  obtain ⟨v, ph', k1, k2, k3, k4, k5⟩ := h D hD (m - ((w - W : Nat) : Int)) (by omega) (by omega) vs ph (xhV_map hn (xhsV_ok hm c1 hv)) (xhF_map hn2 (xhsF_ok hm c2 g6)) hP2 g9
  refine ⟨v, ph', k1, ?_, k3, ?_, xhF_map hn4 k5⟩
  · have := xH_map (fun x e g => xeG_hs g) k2
    rw [Nat.zero_add] at this
    exact this
  · cases res with
    | none => exact k4
    | some h9 => obtain ⟨u, e, gu⟩ := k4; exact ⟨u, e, xhn_ok hn3 gu⟩
/-- the answer's bounds, as a value of a state -/
def xhmo (n : Nat) (res : Option xh) : Option xv := match res with
  | none => none
  | some h => some (xhm n h)
theorem xhR_up {m : Int} {σ : Nat → Int} {n : Nat} {v : Option Value} {res : Option xh} (hn : 0 < n) (h0 : σ 0 = 0) (g : xhR X m v res) : ∃ σ', (∀ t, t < n → σ' t = σ t) ∧ xoG X m σ' (n + 1) v (xhmo n res) := by
  cases res with
  | none => exact ⟨σ, fun _ _ => rfl, g⟩
  | some h =>
    obtain ⟨u, e, gu⟩ := g
    obtain ⟨e9, g10⟩ := xhm_ok hn h0 gu
    exact ⟨xup σ n e9, fun t ht => xup_lt ht, u, e, g10⟩
theorem xoG_up {m : Int} {σ σ' : Nat → Int} {n n' : Nat} {vv : Option Value} {v : Option xv} (h : ∀ t, t < n → σ' t = σ t) (hn : n ≤ n') (g : xoG X m σ n vv v) : xoG X m σ' n' vv v := by
  cases v with
  | none => exact g
  | some q => obtain ⟨u, e, gu⟩ := g; exact ⟨u, e, xvG_up h hn gu⟩
/-- a contract of what leaves the heap as it is -/
noncomputable def xctrP (X : xD) (pre : List xh) (fp : List (Nat × xh)) (res : Option xh) : xc := fun as ρ S => match S with
  | (n, A, sa, fs, w, F) => bif (bif xhsV X as pre then xhsF X fs fp else false) then ρ (xhmo n res) (n + 1, A, sa, fs, w, F) else false
theorem xctrP_ok {d j : Nat} {pre : List xh} {fp : List (Nat × xh)} {res : Option xh} (hn : pre.all xhn = true) (hn2 : fp.all (fun p => xhn p.2) = true) (hn3 : res.all xhn = true) (h : ∀ E2 : pm_H → Prop, xcon X KC E2 d j pre fp 0 res []) : xcok X KC E d j (xctrP X pre fp res) := by
  intro D hD m hm n0 σ0 Fc L st ρ Q hρ as S hc σ ph vs hS hv
  obtain ⟨n, A, sa, fs, w, F⟩ := S
  obtain ⟨g1, g2, g3, g4, g5, g6, g7, g8, g9⟩ := hS
  have hnn : 0 < n := Nat.lt_of_lt_of_le g3.1 g1
  have h0 : σ 0 = 0 := by rw [g2 0 g3.1]; exact g3.2.1
  unfold xctrP at hc
  simp only at hc
  have hcond := (x_and hc).1
  replace hc := (x_and hc).2
  obtain ⟨c1, c2⟩ := x_and hcond
  obtain ⟨v, ph', k1, k2, k3, k4, k5⟩ := xcon_use hn hn2 hn3 rfl (h (fun p => p = ph)) hD hm g3.2.2 c1 c2 (Nat.zero_le w) hv g6 g7 rfl
  have k3' : ph' = ph := k3
  subst k3'
  refine ⟨v, ph', k1, ?_⟩
  obtain ⟨σ1, u1, r1⟩ := xhR_up hnn h0 k4
  exact hρ _ _ hc σ1 ph' v ⟨by omega, fun t ht => by rw [u1 t (by omega)]; exact g2 t ht, g3, xlG_up u1 (by omega) g4, xsG_up u1 (by omega) g5, xfG_up u1 (by omega) g6, g7, xFG_up u1 (by omega) g8, g9⟩ r1
/-- one summary or another -/
noncomputable def xalt (X : xD) (pre : List xh) (c1 c2 : xc) : xc := fun as ρ S => bif xhsV X as pre then c1 as ρ S else c2 as ρ S
theorem xalt_ok {d j : Nat} {pre : List xh} {c1 c2 : xc} (h1 : xcok X KC E d j c1) (h2 : xcok X KC E d j c2) : xcok X KC E d j (xalt X pre c1 c2) := by
  intro D hD m hm n0 σ0 Fc L st ρ Q hρ as S hc σ ph vs hS hv
  unfold xalt at hc
  cases hb : xhsV X as pre with
  | true => rw [hb] at hc; exact h1 D hD m hm n0 σ0 Fc L st ρ Q hρ as S hc σ ph vs hS hv
  | false => rw [hb] at hc; exact h2 D hD m hm n0 σ0 Fc L st ρ Q hρ as S hc σ ph vs hS hv
def xnone : xc := fun _ _ _ => false
theorem xnone_ok {d j : Nat} : xcok X KC E d j xnone := by
  intro D hD m hm n0 σ0 Fc L st ρ Q hρ as S hc
  cases hc
/-- each kind of the first argument by itself -/
noncomputable def xsU (X : xD) (c : xc) : xc := fun as ρ S => match as with
  | .inr (.inr (.inl u)) :: r => (X.2.2 u).all (fun i => bif xmemN (X.2.2 i) i then c (.inr (.inr (.inl i)) :: r) ρ S else false)
  | _ => false
theorem xsU_ok {d j : Nat} {c : xc} (h : xcok X KC E d j c) : xcok X KC E d j (xsU X c) := by
  intro D hD m hm n0 σ0 Fc L st ρ Q hρ as S hc σ ph vs hS hv
  unfold xsU at hc
  split at hc
  · next u r =>
    match vs, hv with
    | v :: vs, ⟨⟨a, i, e, ho, hi⟩, hv⟩ =>
      subst e
      have h1 := List.all_eq_true.mp hc i hi
      obtain ⟨h2, h3⟩ := x_and h1
      exact h D hD m hm n0 σ0 Fc L st ρ Q hρ _ S h3 σ ph _ hS ⟨xvR ho (xmemN_in h2), hv⟩
  · cases hc
end XND
theorem xmemP_in : ∀ {l : List (Nat × Nat)} {i k : Nat}, xmemP l i k = true → (i, k) ∈ l := by
  intro l
  induction l with
  | nil => intro i k h; cases (show false = true from h)
  | cons a r ih =>
    intro i k h
    rw [xmemP_c] at h
    cases hb : (bif Nat.beq a.1 i then Nat.beq a.2 k else false) with
    | true =>
      obtain ⟨h1, h2⟩ := x_and hb
      have h1 := Nat.eq_of_beq_eq_true h1
      have h2 := Nat.eq_of_beq_eq_true h2
      subst h1 h2
      exact List.mem_cons_self
    | false => rw [hb] at h; exact List.mem_cons_of_mem _ (ih h)
theorem xHE_sub {X : xD} {gA gA' : List Nat} {gF gF' : List (Nat × Nat)} {E : pm_H → Prop} (h1 : gA.all (fun i => xmemN gA' i) = true) (h2 : gF.all (fun p => xmemP gF' p.1 p.2) = true) (h : xHE X gA gF E) : xHE X gA' gF' E := xHE_mono (fun i hi => xmemN_in (List.all_eq_true.mp h1 i hi)) (fun p hp => xmemP_in (List.all_eq_true.mp h2 p hp)) h
theorem xsane_of {X : xD} {gA : List Nat} {gF : List (Nat × Nat)} (h1 : gA.all (fun i => match X.2.1 i with | some (_, .inl _) => true | _ => false) = true) (h2 : gF.all (fun p => match X.2.1 p.1 with | some (_, .inr _) => true | some (_, .inl (0, _)) => true | _ => false) = true) : xsane X gA gF := by
  refine ⟨fun i hi => ?_, fun i k hk => ?_⟩
  · have h := List.all_eq_true.mp h1 i hi
    split at h
    · next s t hq => exact ⟨s, t, hq⟩
    · cases h
  · have h := List.all_eq_true.mp h2 (i, k) hk
    simp only at h
    split at h
    · next s t hq => exact Or.inl ⟨s, t, hq⟩
    · next s t hq => exact Or.inr ⟨s, t, hq⟩
    · cases h
theorem xz0 : xzty 0 .int := ⟨fun _ => rfl, fun h => (by cases h), fun h => (by cases h), fun h => (by cases h)⟩
theorem xz1 : xzty 1 .boolean := ⟨fun h => (by cases h), fun _ => rfl, fun h => (by cases h), fun h => (by cases h)⟩
theorem xz2 : xzty 2 .long := ⟨fun h => (by cases h), fun h => (by cases h), fun _ => rfl, fun h => (by cases h)⟩
theorem xz3 {n : String} : xzty 3 (.object n) := ⟨fun h => (by cases h), fun h => (by cases h), fun h => (by cases h), fun _ => ⟨n, rfl⟩⟩
theorem xv_idiv (x y : Int32) (r : List Value) (h : y.toInt ≠ 0) : pm_alu .idiv (.int y :: .int x :: r) = some (.int (x / y) :: r) := by
  show (bif decide (y = 0) then none else some (Value.int (x / y) :: r)) = _
  rw [x32_ne h]
  rfl
theorem xv_irem (x y : Int32) (r : List Value) (h : y.toInt ≠ 0) : pm_alu .irem (.int y :: .int x :: r) = some (.int (x - x / y * y) :: r) := by
  show (bif decide (y = 0) then none else some (Value.int (x - x / y * y) :: r)) = _
  rw [x32_ne h]
  rfl
theorem xv_ldiv (x y : Int64) (r : List Value) (h : y.toInt ≠ 0) : pm_alu .ldiv (.long y :: .long x :: r) = some (.long (x / y) :: r) := by
  show (bif decide (y = 0) then none else some (Value.long (x / y) :: r)) = _
  rw [x64_ne h]
  rfl
theorem xv_lrem (x y : Int64) (r : List Value) (h : y.toInt ≠ 0) : pm_alu .lrem (.long y :: .long x :: r) = some (.long (x - x / y * y) :: r) := by
  show (bif decide (y = 0) then none else some (Value.long (x - x / y * y) :: r)) = _
  rw [x64_ne h]
  rfl
