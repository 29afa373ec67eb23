/-! The heap behind the constructors, with the answers' array of one long: it is of the kinds (all hours are 0) -/
section XST
variable (X : xD) (K : pm_K) (ph : pm_H)
def xeB (x : Int) (e : xe) : Bool := match e with
  | some p => bif zle p.1 x then zle x p.2 else false
  | none => bif zle 0 x then zle x 0 else false
def xlB (p : Nat) (sg : List (Nat × xe)) : List Int32 → Nat → Bool
  | [], _ => true
  | x :: r, i => bif xeB x.toInt (xat sg (i % p)) then xlB p sg r (i + 1) else false
def xzB : List Int32 → Bool
  | [] => true
  | x :: r => bif (bif zle 0 x.toInt then zle x.toInt 1 else false) then xzB r else false
noncomputable def xqB (u : Nat) : List (Option Nat) → Bool
  | [] => true
  | some q :: r => bif (match X.1 q with
      | some j => xmemN (X.2.2 u) j
      | none => false) then xqB u r else false
  | none :: _ => false
def xrB (p : Nat) (sg : List (Nat × xe)) (f : Nat → Value) : Nat → Bool
  | 0 => true
  | n + 1 => bif (match f n with
      | .int x => xeB x.toInt (xat sg (n % p))
      | _ => false) then xrB p sg f n else false
noncomputable def xfB (v : Value) (t : (Int × Int) ⊕ Option Nat) : Bool := match t, v with
  | .inl p, .int x => bif zle p.1 x.toInt then zle x.toInt p.2 else false
  | .inr none, .long _ => true
  | .inr (some u), .ref a => (match X.1 a with
      | some j => xmemN (X.2.2 u) j
      | none => false)
  | _, _ => false
noncomputable def xoB : List ((Int × Int) ⊕ Option Nat) → List Value → Bool
  | [], _ => true
  | t :: r, v :: s => bif xfB X v t then xoB r s else false
  | _ :: _, [] => false
noncomputable def xcB (a : Nat) (t : xt) : Bool := match t with
  | .inl (0, n, p, sg, _) => (match pm_at ph a with
      | some (.inl (0, .inl l)) => bif Nat.beq l.length n then xlB p sg l 0 else false
      | _ => false)
  | .inl (1, n, _, _, _) => (match pm_at ph a with
      | some (.inl (1, .inl l)) => bif Nat.beq l.length n then xzB l else false
      | _ => false)
  | .inl (2, n, _, _, _) => (match pm_at ph a with
      | some (.inl (2, .inr (.inl l))) => Nat.beq l.length n
      | _ => false)
  | .inl (4, n, _, _, u) => (match pm_at ph a with
      | some (.inl (4, .inr (.inr l))) => bif Nat.beq l.length n then xqB X u l else false
      | _ => false)
  | .inl (5, n, p, sg, _) => (match pm_at ph a with
      | some _ => false
      | none => (match pm_rat K a with
        | some (0, n', f) => bif Nat.beq n' n then xrB p sg f n else false
        | _ => false))
  | .inl (7, n, p, sg, _) => (match pm_at ph a with
      | some _ => false
      | none => (match pm_rat K a with
        | some (3, n', f) => bif Nat.beq n' n then xrB p sg f n else false
        | _ => false))
  | .inl (6, _) => Nat.ble 1048576 a
  | .inl _ => false
  | .inr (ci, fts) => (match pm_at ph a with
      | some (.inr (cj, fl)) => bif Nat.beq cj ci then xoB X fts fl else false
      | _ => false)
noncomputable def xaB (a : Nat) : Bool := match X.1 a with
  | none => true
  | some i => (match X.2.1 i with
    | some (none, t) => xcB X K ph a t
    | some (some b, t) => bif Nat.beq a b then xcB X K ph a t else false
    | none => false)
end XST
section XSU
variable {X : xD} {K : pm_K} {ph : pm_H}
theorem xeB_ok {m : Int} {w : Nat} {x : Int} {e : xe} (hw : (w : Int) ≤ m) (h : xeB x e = true) : xeG m w x e := by
  match e, h with
  | some p, h => exact ⟨zle_le (x_and h).1, zle_le (x_and h).2⟩
  | none, h =>
    have h1 := zle_le (x_and h).1
    have h2 := zle_le (x_and h).2
    exact ⟨h1, by omega⟩
theorem xlB_ok {m : Int} {w p : Nat} {sg : List (Nat × xe)} (hw : (w : Int) ≤ m) : ∀ {l : List Int32} {b : Nat}, xlB p sg l b = true → ∀ (i : Nat) (x : Int32), l[i]? = some x → xeG m w x.toInt (xat sg ((b + i) % p)) := by
  intro l
  induction l with
  | nil => intro b h i x hx; simp at hx
  | cons y r ih =>
    intro b h i x hx
    obtain ⟨h1, h2⟩ := x_and h
    cases i with
    | zero => cases hx; exact xeB_ok hw h1
    | succ i =>
      have := ih h2 i x (by simpa using hx)
      rw [show b + (i + 1) = b + 1 + i by omega]
      exact this
theorem xzB_ok : ∀ {l : List Int32}, xzB l = true → ∀ (i : Nat) (x : Int32), l[i]? = some x → 0 ≤ x.toInt ∧ x.toInt ≤ 1 := by
  intro l
  induction l with
  | nil => intro h i x hx; simp at hx
  | cons y r ih =>
    intro h i x hx
    obtain ⟨h1, h2⟩ := x_and h
    cases i with
    | zero => cases hx; exact ⟨zle_le (x_and h1).1, zle_le (x_and h1).2⟩
    | succ i => exact ih h2 i x (by simpa using hx)
theorem xqB_ok {u : Nat} : ∀ {l : List (Option Nat)}, xqB X u l = true → ∀ (i : Nat) (o : Option Nat), l[i]? = some o → ∃ q j, o = some q ∧ X.1 q = some j ∧ j ∈ X.2.2 u := by
  intro l
  induction l with
  | nil => intro h i x hx; simp at hx
  | cons y r ih =>
    intro h i o ho
    cases y with
    | none => cases h
    | some q =>
      unfold xqB at h
      obtain ⟨h1, h2⟩ := x_and h
      cases i with
      | zero =>
        cases ho
        split at h1
        · next j hj => exact ⟨q, j, rfl, hj, xmemN_in h1⟩
        · cases h1
      | succ i => exact ih h2 i o (by simpa using ho)
theorem xrB_ok {m : Int} {w p : Nat} {sg : List (Nat × xe)} {f : Nat → Value} (hw : (w : Int) ≤ m) : ∀ {n : Nat}, xrB p sg f n = true → ∀ i, i < n → ∃ x : Int32, f i = .int x ∧ xeG m w x.toInt (xat sg (i % p)) := by
  intro n
  induction n with
  | zero => intro h i hi; omega
  | succ n ih =>
    intro h i hi
    unfold xrB at h
    obtain ⟨h1, h2⟩ := x_and h
    by_cases e : i = n
    · subst e
      split at h1
      · next x hx => exact ⟨x, hx, xeB_ok hw h1⟩
      · cases h1
    · exact ih h2 i (by omega)
theorem xfB_ok {v : Value} {t : (Int × Int) ⊕ Option Nat} (h : xfB X v t = true) : xftG X v t := by
  unfold xfB at h
  split at h
  · next p x => exact ⟨x, rfl, zle_le (x_and h).1, zle_le (x_and h).2⟩
  · next x => exact ⟨x, rfl⟩
  · next u a =>
    split at h
    · next j hj => exact ⟨a, j, rfl, hj, xmemN_in h⟩
    · cases h
  · cases h
theorem xoB_ok : ∀ {fts : List ((Int × Int) ⊕ Option Nat)} {fl : List Value}, xoB X fts fl = true → ∀ (k : Nat) (ft : (Int × Int) ⊕ Option Nat), fts[k]? = some ft → ∃ v, fl[k]? = some v ∧ xftG X v ft := by
  intro fts
  induction fts with
  | nil => intro fl h k ft hk; simp at hk
  | cons t r ih =>
    intro fl h k ft hk
    cases fl with
    | nil => cases h
    | cons v s =>
      unfold xoB at h
      obtain ⟨h1, h2⟩ := x_and h
      cases k with
      | zero => cases hk; exact ⟨v, rfl, xfB_ok h1⟩
      | succ k =>
        obtain ⟨v2, e, g⟩ := ih h2 k ft (by simpa using hk)
        exact ⟨v2, by simpa using e, g⟩
theorem xcB_ok {m : Int} {w a : Nat} {t : xt} (hw : (w : Int) ≤ m) (h : xcB X K ph a t = true) : xcG X K m w ph a t := by
  unfold xcB at h
  split at h
  · split at h
    · next l hl => exact ⟨l, hl, Nat.eq_of_beq_eq_true (x_and h).1, fun i x hx => by have := xlB_ok hw (x_and h).2 i x hx; rw [Nat.zero_add] at this; exact this⟩
    · cases h
  · split at h
    · next l hl => exact ⟨l, hl, Nat.eq_of_beq_eq_true (x_and h).1, xzB_ok (x_and h).2⟩
    · cases h
  · split at h
    · next l hl => exact ⟨l, hl, Nat.eq_of_beq_eq_true h⟩
    · cases h
  · split at h
    · next l hl => exact ⟨l, hl, Nat.eq_of_beq_eq_true (x_and h).1, xqB_ok (x_and h).2⟩
    · cases h
  · split at h
    · cases h
    · next hn =>
      split at h
      · next n' f hr =>
        have := Nat.eq_of_beq_eq_true (x_and h).1
        subst this
        exact ⟨hn, f, hr, xrB_ok hw (x_and h).2⟩
      · cases h
  · split at h
    · cases h
    · next hn =>
      split at h
      · next n' f hr =>
        have := Nat.eq_of_beq_eq_true (x_and h).1
        subst this
        exact ⟨hn, f, hr, xrB_ok hw (x_and h).2⟩
      · cases h
  · exact Nat.le_of_ble_eq_true h
  · cases h
  · split at h
    · next ci fts cj fl hl =>
      have := Nat.eq_of_beq_eq_true (x_and h).1
      subst this
      exact ⟨fl, hl, xoB_ok (x_and h).2⟩
    · cases h
theorem xaB_ok {m : Int} {w a i : Nat} (hw : (w : Int) ≤ m) (h : xaB X K ph a = true) (hi : X.1 a = some i) : ∃ s t, X.2.1 i = some (s, t) ∧ (∀ b, s = some b → a = b) ∧ xcG X K m w ph a t := by
  unfold xaB at h
  rw [hi] at h
  simp only at h
  split at h
  · next t ht => exact ⟨none, t, ht, (fun b e => by cases e), xcB_ok hw h⟩
  · next b t ht =>
    have := Nat.eq_of_beq_eq_true (x_and h).1
    exact ⟨some b, t, ht, (fun c e => by cases e; exact this), xcB_ok hw (x_and h).2⟩
  · cases h
theorem xnth_none {α : Type} : ∀ {l : List α} {n : Nat}, l.length ≤ n → pm_nth l n = none := by
  intro l
  induction l with
  | nil => intro n _; rfl
  | cons a t ih =>
    intro n h
    cases n with
    | zero => simp at h
    | succ n => exact ih (by simpa using h)
end XSU
theorem xowT_len : xowT.length = 13 := by decide +kernel
theorem xdom {T : List (List Nat)} {R : List (Nat × Nat)} {N a i : Nat} (hT : T.length = N) (h : (bif Nat.blt a 1048576 then pm_nth2 T a else pm_lu R (a - 1048576)) = some i) : a < 16 * N ∨ (1048576 ≤ a ∧ (a - 1048576, i) ∈ R) := by
  generalize 1048576 = M at h ⊢
  cases hb : Nat.blt a M with
  | true =>
    rw [hb] at h
    simp only [cond_true] at h
    left
    rcases Nat.lt_or_ge a (16 * N) with q | q
    · exact q
    · unfold pm_nth2 at h
      rw [xnth_none (l := T) (n := a / 16) (by omega)] at h
      cases h
  | false =>
    rw [hb] at h
    simp only [cond_false] at h
    right
    refine ⟨?_, pm_lu_mem h⟩
    rcases Nat.lt_or_ge a M with q | q
    · exact absurd (show Nat.blt a M = true from Nat.ble_eq_true_of_le q) (by rw [hb]; exact fun z => by cases z)
    · exact q
theorem xown_dom {a i : Nat} (h : xown a = some i) : a < 16 * 13 ∨ (1048576 ≤ a ∧ (a - 1048576, i) ∈ xowR) := xdom xowT_len h
theorem xst_lo : (List.range 208).all (xaB xX kK kH0) = true := by decide +kernel
theorem xst_hi : xowR.all (fun p => xaB xX kK kH0 (1048576 + p.1)) = true := by decide +kernel
/-- the start keeps the kinds, with any hours ahead -/
theorem xst0 {m : Int} {w : Nat} (hw : (w : Int) ≤ m) : xH xX kK m w kH0 := by
  intro a i hi
  rcases xown_dom hi with q | ⟨q, hm⟩
  · exact xaB_ok hw (List.all_eq_true.mp xst_lo a (List.mem_range.mpr (show a < 208 from q))) hi
  · have h := List.all_eq_true.mp xst_hi _ hm
    have e : 1048576 + (a - 1048576) = a := by omega
    simp only [e] at h
    exact xaB_ok hw h hi
theorem xV0 : xV kH0 := ⟨_, 0, rfl, rfl, Nat.zero_le _, rfl⟩
