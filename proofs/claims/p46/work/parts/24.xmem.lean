/-! X: blocks: the heap -/
/-- guarded arrays are arrays, guarded cells are fields, or elements of arrays of ints -/
def xsane (X : xD) (gA : List Nat) (gF : List (Nat × Nat)) : Prop := (∀ i, i ∈ gA → ∃ s t, X.2.1 i = some (s, .inl t)) ∧ ∀ i k, (i, k) ∈ gF → (∃ s t, X.2.1 i = some (s, .inr t)) ∨ ∃ s t, X.2.1 i = some (s, .inl (0, t))
def xHE (X : xD) (gA : List Nat) (gF : List (Nat × Nat)) (E : pm_H → Prop) : Prop := ∀ ph ph', xSame X gA gF ph ph' → E ph → E ph'
theorem xHE_mono {X : xD} {gA gA' : List Nat} {gF gF' : List (Nat × Nat)} {E : pm_H → Prop} (h1 : ∀ i, i ∈ gA → i ∈ gA') (h2 : ∀ p, p ∈ gF → p ∈ gF') (h : xHE X gA gF E) : xHE X gA' gF' E := fun ph ph' hs => h ph ph' ⟨fun a i ha hi => hs.1 a i ha (h1 i hi), fun a i k ha hi => hs.2 a i k ha (h2 (i, k) hi)⟩
noncomputable def xlook (fs : List (Nat × xv)) (k : Nat) : Option xv := List.rec (motive := fun _ => Option xv) none (fun p _ ih => bif Nat.beq p.1 k then some p.2 else ih) fs
theorem xlook_c {p : Nat × xv} {r : List (Nat × xv)} {k : Nat} : xlook (p :: r) k = bif Nat.beq p.1 k then some p.2 else xlook r k := rfl
theorem xlook_mem : ∀ {fs : List (Nat × xv)} {k : Nat} {q : xv}, xlook fs k = some q → (k, q) ∈ fs := by
  intro fs
  induction fs with
  | nil => intro k q h; cases (show (none : Option xv) = some q from h)
  | cons p r ih =>
    intro k q h
    rw [xlook_c] at h
    cases hb : Nat.beq p.1 k with
    | true =>
      rw [hb] at h
      have := Nat.eq_of_beq_eq_true hb
      subst this
      have e : p.2 = q := Option.some.inj h
      subst e
      exact List.mem_cons_self
    | false => rw [hb] at h; exact List.mem_cons_of_mem _ (ih h)
noncomputable def xdrop (fs : List (Nat × xv)) (k : Nat) : List (Nat × xv) := List.rec (motive := fun _ => List (Nat × xv)) [] (fun p _ ih => bif Nat.beq p.1 k then ih else p :: ih) fs
theorem xdrop_c {p : Nat × xv} {r : List (Nat × xv)} {k : Nat} : xdrop (p :: r) k = bif Nat.beq p.1 k then xdrop r k else p :: xdrop r k := rfl
theorem xdrop_mem : ∀ {fs : List (Nat × xv)} {k : Nat} {p : Nat × xv}, p ∈ xdrop fs k → p ∈ fs ∧ p.1 ≠ k := by
  intro fs
  induction fs with
  | nil => intro k p h; exact absurd (show p ∈ ([] : List (Nat × xv)) from h) List.not_mem_nil
  | cons a r ih =>
    intro k p h
    rw [xdrop_c] at h
    cases hb : Nat.beq a.1 k with
    | true => rw [hb] at h; obtain ⟨h1, h2⟩ := ih h; exact ⟨List.mem_cons_of_mem _ h1, h2⟩
    | false =>
      rw [hb] at h
      rcases List.mem_cons.mp h with h | h
      · subst h
        refine ⟨List.mem_cons_self, fun e => ?_⟩
        rw [e] at hb
        have : Nat.beq k k = true := by simp
        rw [this] at hb
        cases hb
      · obtain ⟨h1, h2⟩ := ih h; exact ⟨List.mem_cons_of_mem _ h1, h2⟩
noncomputable def xdropA (fs : List (Nat × xv)) (a : Nat) : List (Nat × xv) := List.rec (motive := fun _ => List (Nat × xv)) [] (fun p _ ih => bif (bif Nat.beq (Nat.div p.1 4096) a then true else Nat.beq p.1 (17592186044416 + a)) then ih else p :: ih) fs
theorem xdropA_c {p : Nat × xv} {r : List (Nat × xv)} {a : Nat} : xdropA (p :: r) a = bif (bif Nat.beq (Nat.div p.1 4096) a then true else Nat.beq p.1 (17592186044416 + a)) then xdropA r a else p :: xdropA r a := rfl
theorem xdropA_mem : ∀ {fs : List (Nat × xv)} {k : Nat} {p : Nat × xv}, p ∈ xdropA fs k → p ∈ fs ∧ p.1 / 4096 ≠ k ∧ p.1 ≠ 17592186044416 + k := by
  intro fs
  induction fs with
  | nil => intro k p h; exact absurd (show p ∈ ([] : List (Nat × xv)) from h) List.not_mem_nil
  | cons a r ih =>
    intro k p h
    rw [xdropA_c] at h
    cases hb : (bif Nat.beq (Nat.div a.1 4096) k then true else Nat.beq a.1 (17592186044416 + k)) with
    | true => rw [hb] at h; obtain ⟨h1, h2⟩ := ih h; exact ⟨List.mem_cons_of_mem _ h1, h2⟩
    | false =>
      rw [hb] at h
      rcases List.mem_cons.mp h with h | h
      · subst h
        have sl : ∀ x : Nat, Nat.beq x x = true := fun x => by simp
        refine ⟨List.mem_cons_self, fun e => ?_, fun e => ?_⟩
        · have e2 : Nat.div p.1 4096 = k := e
          rw [e2, sl] at hb
          cases hb
        · rw [e, sl] at hb
          have bt : ∀ z : Bool, (bif z then true else true) = true := fun z => by cases z <;> rfl
          rw [bt] at hb
          cases hb
      · obtain ⟨h1, h2⟩ := ih h; exact ⟨List.mem_cons_of_mem _ h1, h2⟩
theorem xat_ne {ph : pm_H} {a b : Nat} {c : pm_C} (h : b ≠ a) : pm_at (ph.set a c) b = pm_at ph b := by
  unfold pm_at
  rw [List.getElem?_set_ne (Ne.symm h)]
theorem xat_self {ph : pm_H} {a : Nat} {c c0 : pm_C} (h : pm_at ph a = some c0) : pm_at (ph.set a c) a = some c := by
  unfold pm_at at h ⊢
  cases hb : Nat.blt a 1048576 with
  | false => rw [hb] at h; cases h
  | true =>
    rw [hb] at h
    have h1 : a < ph.length := (List.getElem?_eq_some_iff.mp h).1
    simp only [cond_true]
    exact List.getElem?_set_self h1
theorem xget_ne {ph : pm_H} {a b k : Nat} {c : pm_C} (h : b ≠ a) : xget (ph.set a c) b k = xget ph b k := by
  unfold xget
  rw [xat_ne h]
theorem xcG_at {X : xD} {K : pm_K} {m : Int} {w : Nat} {ph ph' : pm_H} {a : Nat} {t : xt} (h : pm_at ph a = pm_at ph' a) (g : xcG X K m w ph a t) : xcG X K m w ph' a t := by
  unfold xcG at g ⊢
  rw [h] at g
  exact g
theorem xH_set {X : xD} {K : pm_K} {m : Int} {w a i : Nat} {ph : pm_H} {c : pm_C} {s : Option Nat} {t : xt} (hP : xH X K m w ph) (ho : X.1 a = some i) (ht : X.2.1 i = some (s, t)) (hn : xcG X K m w (ph.set a c) a t) : xH X K m w (ph.set a c) := by
  intro b j hj
  by_cases e : b = a
  · subst e
    rw [ho] at hj
    cases hj
    obtain ⟨s2, t2, h1, h2, -⟩ := hP b i ho
    rw [ht] at h1
    cases h1
    exact ⟨s, t, ht, h2, hn⟩
  · obtain ⟨s2, t2, h1, h2, h3⟩ := hP b j hj
    exact ⟨s2, t2, h1, h2, xcG_at (xat_ne e).symm h3⟩
/-- a thing known that another heap knows too -/
def xsamef (ph ph' : pm_H) (k : Nat) : Prop := (k < 17592186044416 → xget ph' (k / 4096) (k % 4096) = xget ph (k / 4096) (k % 4096)) ∧ (¬ k < 17592186044416 → ∀ l, pm_at ph (k - 17592186044416) = some (.inl (0, .inl l)) → pm_at ph' (k - 17592186044416) = pm_at ph (k - 17592186044416))
theorem xfG_set {X : xD} {m : Int} {σ : Nat → Int} {n : Nat} {ph ph' : pm_H} {fs fs' : List (Nat × xv)} (g : xfG X m σ n ph fs) (hs : ∀ p, p ∈ fs' → p ∈ fs ∧ xsamef ph ph' p.1) : xfG X m σ n ph' fs' := fun k q hq => by
  obtain ⟨h1, h2, h3⟩ := hs (k, q) hq
  have g9 := g k q h1
  unfold xfact at g9 ⊢
  split at g9
  · next hk =>
    rw [if_pos hk]
    obtain ⟨h0, v, h4, h5⟩ := g9
    exact ⟨h0, v, by rw [h2 hk]; exact h4, h5⟩
  · next hk =>
    rw [if_neg hk]
    obtain ⟨h0, l, x, y, p, h4, h5⟩ := g9
    exact ⟨h0, l, x, y, p, by rw [h3 hk l h4]; exact h4, h5⟩
theorem xget_lt {ph : pm_H} {a k : Nat} {v : Value} (h : xget ph a k = some v) : a < 1048576 := by
  unfold xget pm_at at h
  cases hb : Nat.blt a 1048576 with
  | true => exact Nat.le_of_ble_eq_true hb
  | false => rw [hb] at h; cases h
theorem xat_lt {ph : pm_H} {a : Nat} {c : pm_C} (h : pm_at ph a = some c) : a < 1048576 := by
  unfold pm_at at h
  cases hb : Nat.blt a 1048576 with
  | true => exact Nat.le_of_ble_eq_true hb
  | false => rw [hb] at h; cases h
theorem xfG_cons {X : xD} {m : Int} {σ : Nat → Int} {n : Nat} {ph : pm_H} {fs : List (Nat × xv)} {a k j : Nat} {t : xt} {v : Value} {q : xv} (hk : k < 4096) (h1 : X.1 a = some j) (h2 : X.2.1 j = some (some a, t)) (h3 : xget ph a k = some v) (h4 : xvG X m σ n v q) (g : xfG X m σ n ph fs) : xfG X m σ n ph ((a * 4096 + k, q) :: fs) := fun k' q' hq => by
  rcases List.mem_cons.mp hq with e | e
  · cases e
    have ha := xget_lt h3
    have e1 : (a * 4096 + k) / 4096 = a := by omega
    have e2 : (a * 4096 + k) % 4096 = k := by omega
    unfold xfact
    rw [if_pos (by omega), e1, e2]
    exact ⟨⟨j, t, h1, h2⟩, v, h3, h4⟩
  · exact g k' q' e
/-- an element by its index's name -/
theorem xfG_memo {X : xD} {m : Int} {σ : Nat → Int} {n : Nat} {ph : pm_H} {fs : List (Nat × xv)} {a j : Nat} {t : xt} {l : List Int32} {x y : Int32} {p q : xi} (h1 : X.1 a = some j) (h2 : X.2.1 j = some (some a, t)) (h3 : pm_at ph a = some (.inl (0, .inl l))) (h4 : 0 ≤ x.toInt) (h5 : l[x.toInt.toNat]? = some y) (h6 : xiG σ n x.toInt p) (h7 : xiG σ n y.toInt q) (g : xfG X m σ n ph fs) : xfG X m σ n ph ((17592186044416 + a, .inr (.inr (.inr (.inr (p, q))))) :: fs) := fun k' q' hq => by
  rcases List.mem_cons.mp hq with e | e
  · cases e
    have e1 : 17592186044416 + a - 17592186044416 = a := by omega
    unfold xfact
    rw [if_neg (by omega), e1]
    exact ⟨⟨j, t, h1, h2⟩, l, x, y, (p, q), h3, rfl, h4, h5, h6, h7⟩
  · exact g k' q' e
/-- the one kind that a name stands for -/
def x1k (X : xD) (u : Nat) : Option Nat := match X.2.2 u with
  | [i] => some i
  | _ => none
theorem x1k_ok {X : xD} {u i j : Nat} (h : x1k X u = some i) (hj : j ∈ X.2.2 u) : j = i := by
  unfold x1k at h
  split at h
  · next k hk =>
    cases h
    rw [hk] at hj
    rcases List.mem_cons.mp hj with e | e
    · exact e
    · cases e
  · cases h
noncomputable def xmemN (l : List Nat) (i : Nat) : Bool := List.rec (motive := fun _ => Bool) false (fun a _ ih => bif Nat.beq a i then true else ih) l
theorem xmemN_c {a : Nat} {r : List Nat} {i : Nat} : xmemN (a :: r) i = bif Nat.beq a i then true else xmemN r i := rfl
theorem xmemN_ok : ∀ {l : List Nat} {i : Nat}, xmemN l i = false → i ∉ l := by
  intro l
  induction l with
  | nil => intro i _ h; cases h
  | cons a r ih =>
    intro i h q
    rw [xmemN_c] at h
    cases hb : Nat.beq a i with
    | true => rw [hb] at h; cases h
    | false =>
      rw [hb] at h
      rcases List.mem_cons.mp q with e | e
      · subst e
        have : Nat.beq i i = true := by simp
        rw [this] at hb
        cases hb
      · exact ih h e
theorem xmemN_in : ∀ {l : List Nat} {i : Nat}, xmemN l i = true → i ∈ l := by
  intro l
  induction l with
  | nil => intro i h; cases (show false = true from h)
  | cons a r ih =>
    intro i h
    rw [xmemN_c] at h
    cases hb : Nat.beq a i with
    | true => have := Nat.eq_of_beq_eq_true hb; subst this; exact List.mem_cons_self
    | false => rw [hb] at h; exact List.mem_cons_of_mem _ (ih h)
noncomputable def xmemP (l : List (Nat × Nat)) (i k : Nat) : Bool := List.rec (motive := fun _ => Bool) false (fun a _ ih => bif (bif Nat.beq a.1 i then Nat.beq a.2 k else false) then true else ih) l
theorem xmemP_c {a : Nat × Nat} {r : List (Nat × Nat)} {i k : Nat} : xmemP (a :: r) i k = bif (bif Nat.beq a.1 i then Nat.beq a.2 k else false) then true else xmemP r i k := rfl
theorem xmemP_ok : ∀ {l : List (Nat × Nat)} {i k : Nat}, xmemP l i k = false → (i, k) ∉ l := by
  intro l
  induction l with
  | nil => intro i k _ h; cases h
  | cons a r ih =>
    intro i k h q
    rw [xmemP_c] at h
    cases hb : (bif Nat.beq a.1 i then Nat.beq a.2 k else false) with
    | true => rw [hb] at h; cases h
    | false =>
      rw [hb] at h
      rcases List.mem_cons.mp q with e | e
      · subst e
        have h1 : Nat.beq i i = true := by simp
        have h2 : Nat.beq k k = true := by simp
        simp only [h1, h2, cond_true] at hb
        cases hb
      · exact ih h e
/-- a kind within a name -/
noncomputable def xsubk (X : xD) (u v : Nat) : Bool := (X.2.2 u).all (fun i => xmemN (X.2.2 v) i)
theorem xsubk_ok {X : xD} {u v i : Nat} (h : xsubk X u v = true) (hi : i ∈ X.2.2 u) : i ∈ X.2.2 v := xmemN_in (List.all_eq_true.mp h i hi)
/-- bounds within bounds -/
def xin (q : xi) (l h : Int) : Bool := bif zle l q.2.2.1 then zle q.2.2.2 h else false
theorem xin_ok {σ : Nat → Int} {n : Nat} {x l h : Int} {q : xi} (hq : xin q l h = true) (g : xiG σ n x q) : l ≤ x ∧ x ≤ h := by
  obtain ⟨h1, h2⟩ := x_and hq
  have := zle_le h1
  have := zle_le h2
  obtain ⟨-, -, a, b⟩ := g
  omega
theorem xkey3 {p a k : Nat} (h1 : p / 4096 = a) (h2 : p % 4096 = k) : p = a * 4096 + k := by omega
section XME
variable {X : xD} {K KC : pm_K} {E : pm_H → Prop} {d mj pc aux : Nat} {ins : Instr} {L L' : List (Option Value)} {st st' : List Value} {ph ph' : pm_H} {c s : Nat} {g : xb}
noncomputable def xgf (X : xD) (ci kf : Nat) (g : xb) : xb := fun k ρ S => match S with
  | (n, A, .inr (.inr (.inl u)) :: sa, fs, w, F) => (match x1k X u with
    | some i => (match X.2.1 i with
      | some (s, .inr (cj, fts)) => bif Nat.beq ci cj then (match fo_nth fts kf with
        | some (.inl (l, h)) => (match s with
          | some a => (match xlook fs (a * 4096 + kf) with
            | some q => g k ρ (n, A, q :: sa, fs, w, F)
            | none => g k ρ (n + 1, A, .inl (n, 0, l, h) :: sa, (a * 4096 + kf, .inl (n, 0, l, h)) :: fs, w, F))
          | none => g k ρ (n + 1, A, .inl (n, 0, l, h) :: sa, fs, w, F))
        | some (.inr none) => g k ρ (n + 1, A, .inr (.inl (xtopL n)) :: sa, fs, w, F)
        | some (.inr (some v)) => g k ρ (n, A, .inr (.inr (.inl v)) :: sa, fs, w, F)
        | none => false) else false
      | _ => false)
    | none => false)
  | _ => false
theorem xgf_ok {i ci kf b : Nat} {v0 : Value} (hk : kf < 4096) (hc : pm_code K mj pc = some (5, .getfield i, aux)) (hl : pm_lnk K (pm_own K mj) i = some (6, ci, kf, v0)) (hg : xok X K KC E d mj (pc + 3) g) : xok X K KC E d mj pc (xgf X ci kf g) := by
  intro D hD m hm n0 σ0 Fc cs ss k ρ G Q hB hkk hρ S h σ L st ph hS
  unfold xgf at h
  split at h
  · next n A u sa fs w F =>
    split at h
    · next i hi =>
      split at h
      · next s cj fts hct =>
        have hcj := (x_and h).1
        replace h := (x_and h).2
        have := Nat.eq_of_beq_eq_true hcj
        subst this
        obtain ⟨g1, g2, g3, g4, g5, g6, g7, g8, g9⟩ := hS
        match st, g5 with
        | v1 :: r, ⟨⟨a, j, e, ho, hj⟩, g5⟩ =>
          subst e
          have := x1k_ok hi hj
          subst this
          obtain ⟨s2, t2, ht, hone, hcell⟩ := g7 a j ho
          rw [hct] at ht
          cases ht
          obtain ⟨fl, hat, hfl⟩ := hcell
          have hself : Nat.beq ci ci = true := by simp
          have step : ∀ v, fl[kf]? = some v → pm_step K false mj (pc, L, .ref a :: r, ph, cs, ss) = some (.inl (pc + 3, L, v :: r, ph, cs, ss)) := fun v hv => xs5 hc (by
            unfold pm_mem
            simp only [hl, hat, hself, cond_true, hv])
          split at h
          · next l9 h9 hft =>
            rw [fo_nth_eq] at hft
            obtain ⟨v, hv, x, e, b1, b2⟩ := hfl kf _ hft
            subst e
            have fr : xg X KC E m n0 σ0 (n + 1, A, .inl (n, 0, l9, h9) :: sa, fs, w, F) (xup σ n x.toInt) L (.int x :: r) ph Fc := by
              have u1 : ∀ t, t < n → xup σ n x.toInt t = σ t := fun t ht => xup_lt ht
              exact ⟨by omega, fun t ht => by rw [u1 t (by omega)]; exact g2 t ht, g3, xlG_up u1 (by omega) g4, ⟨⟨x, rfl, xfresh b1 b2⟩, xsG_up u1 (by omega) g5⟩, xfG_up u1 (by omega) g6, g7, xFG_up u1 (by omega) g8, g9⟩
            split at h
            · next a0 =>
              have := hone a0 rfl
              subst this
              have hget : xget ph a kf = some (.int x) := by
                unfold xget
                rw [hat]
                exact hv
              split at h
              · next q hq =>
                refine hB.1 _ _ _ _ _ _ _ _ (step _ hv) (hg D hD m hm n0 σ0 Fc cs ss k ρ G Q hB hkk hρ _ h σ L _ ph ?_)
                obtain ⟨-, v9, h1, h2⟩ := xfact_lo (xat_lt hat) hk (g6 _ _ (xlook_mem hq))
                rw [hget] at h1
                cases h1
                exact ⟨g1, g2, g3, g4, ⟨h2, g5⟩, g6, g7, g8, g9⟩
              · refine hB.1 _ _ _ _ _ _ _ _ (step _ hv) (hg D hD m hm n0 σ0 Fc cs ss k ρ G Q hB hkk hρ _ h (xup σ n x.toInt) L _ ph ?_)
                obtain ⟨f1, f2, f3, f4, f5, f6, f7, f8, f9⟩ := fr
                exact ⟨f1, f2, f3, f4, f5, xfG_cons hk ho hct hget f5.1 f6, f7, f8, f9⟩
            · exact hB.1 _ _ _ _ _ _ _ _ (step _ hv) (hg D hD m hm n0 σ0 Fc cs ss k ρ G Q hB hkk hρ _ h _ L _ ph fr)
          · next hft =>
            rw [fo_nth_eq] at hft
            obtain ⟨v, hv, x, e⟩ := hfl kf _ hft
            subst e
            have u1 : ∀ t, t < n → xup σ n x.toInt t = σ t := fun t ht => xup_lt ht
            exact hB.1 _ _ _ _ _ _ _ _ (step _ hv) (hg D hD m hm n0 σ0 Fc cs ss k ρ G Q hB hkk hρ _ h (xup σ n x.toInt) L _ ph ⟨by omega, fun t ht => by rw [u1 t (by omega)]; exact g2 t ht, g3, xlG_up u1 (by omega) g4, ⟨xvJ (xtopL_ok x), xsG_up u1 (by omega) g5⟩, xfG_up u1 (by omega) g6, g7, xFG_up u1 (by omega) g8, g9⟩)
          · next v9 hft =>
            rw [fo_nth_eq] at hft
            obtain ⟨v, hv, a2, i2, e, b1, b2⟩ := hfl kf _ hft
            subst e
            exact hB.1 _ _ _ _ _ _ _ _ (step _ hv) (hg D hD m hm n0 σ0 Fc cs ss k ρ G Q hB hkk hρ _ h σ L _ ph ⟨g1, g2, g3, g4, ⟨xvR b1 b2, g5⟩, g6, g7, g8, g9⟩)
          · cases h
      · cases h
    · cases h
  · cases h
/-- may a field of the type hold it: z: 0 int, 1 boolean, 2 long, 3 a reference -/
noncomputable def xacc (X : xD) (z : Nat) (v : xv) (ft : (Int × Int) ⊕ Option Nat) : Bool := match v, ft with
  | .inl q, .inl p => bif xin q p.1 p.2 then (bif Nat.beq z 0 then true else bif Nat.beq z 1 then xin q 0 1 else false) else false
  | .inr (.inl _), .inr none => Nat.beq z 2
  | .inr (.inr (.inl u)), .inr (some p) => bif Nat.beq z 3 then xsubk X u p else false
  | _, _ => false
def xzty (z : Nat) (ty : FieldType) : Prop := (z = 0 → ty = .int) ∧ (z = 1 → ty = .boolean) ∧ (z = 2 → ty = .long) ∧ (z = 3 → ∃ n, ty = .object n)
theorem xacc_ok {m : Int} {σ : Nat → Int} {n z : Nat} {v : Value} {q : xv} {ft : (Int × Int) ⊕ Option Nat} {ty : FieldType} (hz : xzty z ty) (h : xacc X z q ft = true) (g : xvG X m σ n v q) : pm_fit ty v = true ∧ xftG X v ft := by
  obtain ⟨z0, z1, z2, z3⟩ := hz
  unfold xacc at h
  split at h
  · next q p =>
    obtain ⟨x, e, gx⟩ := g
    subst e
    obtain ⟨h1, h2⟩ := x_and h
    have b := xin_ok h1 gx
    refine ⟨?_, x, rfl, b.1, b.2⟩
    cases hb : Nat.beq z 0 with
    | true => rw [z0 (Nat.eq_of_beq_eq_true hb)]; rfl
    | false =>
      rw [hb] at h2
      simp only [cond_false] at h2
      obtain ⟨h3, h4⟩ := x_and h2
      rw [z1 (Nat.eq_of_beq_eq_true h3)]
      have b2 := xin_ok h4 gx
      show (bif decide (x = 0) then true else decide (x = 1)) = true
      rcases (show x.toInt = 0 ∨ x.toInt = 1 by omega) with e | e
      · have : x = 0 := Int32.toInt_inj.mp e
        rw [decide_eq_true this]
        rfl
      · have : x = 1 := Int32.toInt_inj.mp e
        rw [decide_eq_true this]
        cases decide (x = 0) <;> rfl
  · obtain ⟨x, e, gx⟩ := g
    subst e
    rw [z2 (Nat.eq_of_beq_eq_true h)]
    exact ⟨rfl, x, rfl⟩
  · obtain ⟨a, i, e, h1, h2⟩ := g
    subst e
    obtain ⟨h3, h4⟩ := x_and h
    obtain ⟨nm, e⟩ := z3 (Nat.eq_of_beq_eq_true h3)
    rw [e]
    exact ⟨rfl, a, i, rfl, h1, xsubk_ok h4 h2⟩
  · cases h
noncomputable def xpf (X : xD) (gF : List (Nat × Nat)) (ci kf z : Nat) (g : xb) : xb := fun k ρ S => match S with
  | (n, A, v :: .inr (.inr (.inl u)) :: sa, fs, w, F) => (match x1k X u with
    | some i => (match X.2.1 i with
      | some (s, .inr (cj, fts)) => bif Nat.beq ci cj then bif xmemP gF i kf then false else (match fo_nth fts kf with
        | some ft => bif xacc X z v ft then (match s with
          | some a => g k ρ (n, A, sa, (a * 4096 + kf, v) :: xdrop fs (a * 4096 + kf), w, F)
          | none => g k ρ (n, A, sa, fs, w, F)) else false
        | none => false) else false
      | _ => false)
    | none => false)
  | _ => false
theorem xpf_ok {gA : List Nat} {gF : List (Nat × Nat)} {i ci kf z : Nat} {ty : FieldType} {v0 : Value} (hX : xsane X gA gF) (hE : xHE X gA gF E) (hk : kf < 4096) (hc : pm_code K mj pc = some (5, .putfield i, aux)) (hl : pm_lnk K (pm_own K mj) i = some (6, ci, kf, v0)) (ht : pm_fty K ci kf = ty) (hz : xzty z ty) (hg : xok X K KC E d mj (pc + 3) g) : xok X K KC E d mj pc (xpf X gF ci kf z g) := by
  intro D hD m hm n0 σ0 Fc cs ss k ρ G Q hB hkk hρ S h σ L st ph hS
  unfold xpf at h
  split at h
  · next n A v u sa fs w F =>
    split at h
    · next i hi =>
      split at h
      · next s cj fts hct =>
        have hcj := (x_and h).1
        replace h := (x_and h).2
        have := Nat.eq_of_beq_eq_true hcj
        subst this
        cases hgd : xmemP gF i kf with
        | true => rw [hgd] at h; cases h
        | false =>
        rw [hgd] at h
        simp only [cond_false] at h
        split at h
        · next ft hft =>
          have hacc := (x_and h).1
          replace h := (x_and h).2
          obtain ⟨g1, g2, g3, g4, g5, g6, g7, g8, g9⟩ := hS
          match st, g5 with
          | vv :: v1 :: r, ⟨gv, ⟨a, j, e, ho, hj⟩, g5⟩ =>
            subst e
            have := x1k_ok hi hj
            subst this
            obtain ⟨s2, t2, ht2, hone, hcell⟩ := g7 a j ho
            rw [hct] at ht2
            cases ht2
            obtain ⟨fl, hat, hfl⟩ := hcell
            rw [fo_nth_eq] at hft
            obtain ⟨f1, f2⟩ := xacc_ok hz hacc gv
            obtain ⟨w0, hw0, -⟩ := hfl kf ft hft
            have hlen : kf < fl.length := (List.getElem?_eq_some_iff.mp hw0).1
            have hself : Nat.beq ci ci = true := by simp
            have hbl : Nat.blt kf fl.length = true := Nat.ble_eq_true_of_le hlen
            have step : pm_step K false mj (pc, L, vv :: .ref a :: r, ph, cs, ss) = some (.inl (pc + 3, L, r, ph.set a (.inr (ci, fl.set kf vv)), cs, ss)) := xs5 hc (by
              unfold pm_mem
              simp only [hl, hat, hself, ht, f1, hbl, Bool.and_self, cond_true])
            have hat2 : pm_at (ph.set a (.inr (ci, fl.set kf vv))) a = some (.inr (ci, fl.set kf vv)) := xat_self hat
            have h7 : xH X KC m w (ph.set a (.inr (ci, fl.set kf vv))) := xH_set g7 ho hct ⟨_, hat2, fun k2 ft2 hft2 => by
              by_cases ek : k2 = kf
              · subst ek
                rw [hft] at hft2
                cases hft2
                exact ⟨vv, List.getElem?_set_self hlen, f2⟩
              · rw [List.getElem?_set_ne (Ne.symm ek)]
                exact hfl k2 ft2 hft2⟩
            have hgets : ∀ b k2, ¬ (b = a ∧ k2 = kf) → xget (ph.set a (.inr (ci, fl.set kf vv))) b k2 = xget ph b k2 := fun b k2 hne => by
              by_cases eb : b = a
              · subst eb
                unfold xget
                rw [hat2, hat]
                show (fl.set kf vv)[k2]? = fl[k2]?
                exact List.getElem?_set_ne (fun q => hne ⟨rfl, q.symm⟩)
              · exact xget_ne eb
            have hmem : ∀ b l, pm_at ph b = some (.inl (0, .inl l)) → pm_at (ph.set a (.inr (ci, fl.set kf vv))) b = pm_at ph b := fun b l hb => by
              by_cases eb : b = a
              · subst eb
                rw [hat] at hb
                cases hb
              · exact xat_ne eb
            have h9 : E (ph.set a (.inr (ci, fl.set kf vv))) := by
              refine hE ph _ ⟨fun b j2 hb hm2 => ?_, fun b j2 k2 hb hm2 => ?_⟩ g9
              · by_cases eb : b = a
                · subst eb
                  rw [ho] at hb
                  cases hb
                  obtain ⟨s3, t3, h3⟩ := hX.1 _ hm2
                  rw [hct] at h3
                  cases h3
                · exact (xat_ne eb).symm
              · refine (hgets b k2 ?_).symm
                rintro ⟨eb, ek⟩
                subst eb ek
                rw [ho] at hb
                cases hb
                exact xmemP_ok hgd hm2
            refine hB.1 _ _ _ _ _ _ _ _ step ?_
            split at h
            · next a0 =>
              have := hone a0 rfl
              subst this
              refine hg D hD m hm n0 σ0 Fc cs ss k ρ G Q hB hkk hρ _ h σ L _ _ ⟨g1, g2, g3, g4, g5, xfG_cons hk ho hct ?_ gv (xfG_set g6 fun p hp => ?_), h7, g8, h9⟩
              · unfold xget
                rw [hat2]
                exact List.getElem?_set_self hlen
              · obtain ⟨h1, h2⟩ := xdrop_mem hp
                refine ⟨h1, fun _ => hgets _ _ ?_, fun _ => hmem _⟩
                rintro ⟨e1, e2⟩
                exact h2 (xkey3 e1 e2)
            · refine hg D hD m hm n0 σ0 Fc cs ss k ρ G Q hB hkk hρ _ h σ L _ _ ⟨g1, g2, g3, g4, g5, xfG_set g6 (fun p hp => ⟨hp, fun hk9 => ?_, fun _ => hmem _⟩), h7, g8, h9⟩
              refine hgets _ _ ?_
              rintro ⟨e1, e2⟩
              have g9 := g6 p.1 p.2 hp
              unfold xfact at g9
              rw [if_pos hk9] at g9
              obtain ⟨⟨j3, t3, h3, h4⟩, -⟩ := g9
              rw [e1, ho] at h3
              cases h3
              rw [hct] at h4
              cases h4
          | [_], g5 => exact g5.2.elim
        · cases h
      · cases h
    · cases h
  · cases h
end XME
