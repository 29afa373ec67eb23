/-! the RULE's reading, on paper: the class's automaton, the reference's descent, and that they agree -/
/-- how an operator binds, by its code; 0 an opening bracket -/
def zbd (o : Nat) : Nat := if o = 0 then 0 else if o < 2003 then 1 else if o < 2005 then 2 else if o < 3000 then 3 else 4
def zrl (b : Nat) : List Nat → List Nat → List Nat × List Nat
  | [], C => ([], C)
  | o :: W, C => if b ≤ zbd o then zrl b W (o :: C) else (o :: W, C)
/-- an operator's code by its sign, or 0; a letter's place, or 8 -/
def zop (c : Nat) : Nat := if c = 60 then 2000 else if c = 62 then 2001 else if c = 61 then 2002 else if c = 43 then 2003 else if c = 45 then 2004 else if c = 42 then 2005 else if c = 47 then 2006 else 0
def zlt (c : Nat) : Nat := if c = 98 then 0 else if c = 108 then 1 else if c = 107 then 2 else if c = 102 then 3 else if c = 114 then 4 else if c = 99 then 5 else if c = 110 then 6 else if c = 112 then 7 else 8
def zub (f : Nat → Bool) (i : Nat) (x : Bool) : Nat → Bool := fun j => if j = i then x else f j
/-- codes, what waits (both: the latest first), where a comparison was, brackets, digits, whether a thing is wanted -/
abbrev zAs : Type := List Nat × List Nat × (Nat → Bool) × Nat × Nat × Bool
def zdi (c : Nat) : Bool := decide (48 ≤ c ∧ c ≤ 57)
/-- one sign more -/
def zstep (c : Nat) (s : zAs) : Option zAs := match s with
  | (C, W, cm, dp, dg, wt) =>
    if zdi c = true then
      (if wt = true then some ((c - 48) :: C, W, cm, dp, 1, false)
       else match C with
        | [] => none
        | x :: C => if 1 ≤ dg ∧ dg ≤ 2 then some ((10 * x + (c - 48)) :: C, W, cm, dp, dg + 1, false) else none)
    else if wt = true then
      (if c = 45 then some (C, 3000 :: W, cm, dp, 0, true)
       else if c = 40 then (if dp < 4 then some (C, 0 :: W, zub cm (dp + 1) false, dp + 1, 0, true) else none)
       else if zlt c < 8 then some ((1000 + zlt c) :: C, W, cm, dp, 0, false) else none)
    else if c = 41 then
      (if dp = 0 then none else some ((zrl 1 W C).2, (zrl 1 W C).1.tail, cm, dp - 1, 0, false))
    else if zop c = 0 then none
    else if zbd (zop c) = 1 ∧ cm dp = true then none
    else some ((zrl (zbd (zop c)) W C).2, zop c :: (zrl (zbd (zop c)) W C).1, (if zbd (zop c) = 1 then zub cm dp true else cm), dp, 0, true)
/-- k signs from p on -/
def zrn (t : Nat → Nat) (s : zAs) (p : Nat) : Nat → Option zAs
  | 0 => some s
  | k + 1 => (zrn t s p k).bind (zstep (t (p + k)))
theorem zrn_add {t : Nat → Nat} {s : zAs} {p k m : Nat} : zrn t s p (k + m) = (zrn t s p k).bind (fun q => zrn t q (p + k) m) := by
  induction m with
  | zero =>
    show zrn t s p k = (zrn t s p k).bind (fun q => some q)
    cases zrn t s p k <;> rfl
  | succ m ih =>
    show (zrn t s p (k + m)).bind (zstep (t (p + (k + m)))) = _
    rw [ih]
    cases zrn t s p k with
    | none => rfl
    | some q =>
      show (zrn t q (p + k) m).bind _ = (zrn t q (p + k) m).bind (zstep (t (p + k + m)))
      rw [Nat.add_assoc]
theorem zrn_1 {t : Nat → Nat} {s s' : zAs} {p : Nat} (h : zstep (t p) s = some s') : zrn t s p 1 = some s' := by
  show (some s).bind (zstep (t (p + 0))) = some s'
  rw [Nat.add_zero]
  exact h
theorem zrn_t {t : Nat → Nat} {s s' s'' : zAs} {a b c : Nat} (h1 : a ≤ b) (h2 : b ≤ c) (g1 : zrn t s a (b - a) = some s') (g2 : zrn t s' b (c - b) = some s'') : zrn t s a (c - a) = some s'' := by
  rw [show c - a = (b - a) + (c - b) by omega, zrn_add, g1]
  show zrn t s' (a + (b - a)) (c - b) = _
  rw [show a + (b - a) = b by omega]
  exact g2
/-- how many digits a number at a has, 3 at most; its first k digits -/
def zdc (b : Nat) (t : Nat → Nat) (a : Nat) : Nat := if a + 1 < b ∧ zdi (t (a + 1)) = true then (if a + 2 < b ∧ zdi (t (a + 2)) = true then 3 else 2) else 1
def znv (t : Nat → Nat) (a : Nat) : Nat → Nat
  | 0 => 0
  | k + 1 => 10 * znv t a k + (t (a + k) - 48)
/-- an operator of a rank -/
def zrk2 (r c : Nat) : Bool := decide (zop c ≠ 0 ∧ zbd (zop c) = r + 1)
/-- the descent: ranks 0 .. 3 (3: a thing), 4 .. 6: what comes behind one of rank 0 .. 2; from a, brackets, codes -/
def zde (b : Nat) (t : Nat → Nat) : Nat → Nat → Nat → Nat → List Nat → Option (Bool × Nat × List Nat)
  | 0, _, _, _, _ => none
  | f + 1, m, a, ns, cs =>
    if m = 3 then
      (if a < b ∧ t a = 45 then (zde b t f 3 (a + 1) ns cs).map (fun x => (x.1, x.2.1, 3000 :: x.2.2))
       else if a < b ∧ zdi (t a) = true then some (true, a + zdc b t a, znv t a (zdc b t a) :: cs)
       else if a < b ∧ zlt (t a) < 8 then some (true, a + 1, (1000 + zlt (t a)) :: cs)
       else if ns < 4 ∧ a < b ∧ t a = 40 then (zde b t f 0 (a + 1) (ns + 1) cs).map (fun x => if x.1 = true ∧ x.2.1 < b ∧ t x.2.1 = 41 then (true, x.2.1 + 1, x.2.2) else (false, x.2.1, x.2.2))
       else some (false, a, cs))
    else if m < 3 then (zde b t f (m + 1) a ns cs).bind (fun x => if x.1 = true then zde b t f (m + 4) x.2.1 ns x.2.2 else some x)
    else if a < b ∧ zrk2 (m - 4) (t a) = true then (zde b t f (m - 3) (a + 1) ns cs).bind (fun x => if x.1 = true then (if m = 4 then some (true, x.2.1, zop (t a) :: x.2.2) else zde b t f m x.2.1 ns (zop (t a) :: x.2.2)) else some x)
    else some (true, a, cs)
/-! what is released -/
theorem zrl_all {b : Nat} : ∀ {W2 : List Nat} {W C : List Nat}, (∀ o ∈ W2, b ≤ zbd o) → (∀ o, W.head? = some o → zbd o < b) → zrl b (W2 ++ W) C = (W, W2.reverse ++ C)
  | [], [], _, _, _ => rfl
  | [], o :: W, C, _, h => by
    show (if b ≤ zbd o then zrl b W (o :: C) else (o :: W, C)) = _
    rw [if_neg (Nat.not_le.mpr (h o rfl))]
    rfl
  | o :: W2, W, C, h1, h2 => by
    show (if b ≤ zbd o then zrl b (W2 ++ W) (o :: C) else _) = _
    rw [if_pos (h1 o List.mem_cons_self), zrl_all (fun q hq => h1 q (List.mem_cons_of_mem _ hq)) h2, List.reverse_cons, List.append_assoc]
    rfl
theorem zbd_op {c : Nat} (h : zop c ≠ 0) : 1 ≤ zbd (zop c) ∧ zbd (zop c) ≤ 3 := by
  unfold zop at h ⊢
  repeat' split
  all_goals first | decide | (exfalso; simp_all)
theorem zop_nd {c : Nat} (h : zop c ≠ 0) : zdi c = false ∧ c ≠ 41 := by
  unfold zop at h
  unfold zdi
  repeat' split at h
  all_goals first | (exfalso; exact h rfl) | (subst_vars; decide)
theorem zlt_nd {c : Nat} (h : zlt c < 8) : zdi c = false ∧ c ≠ 45 ∧ c ≠ 40 := by
  unfold zlt at h
  unfold zdi
  repeat' split at h
  all_goals first | (exfalso; omega) | (subst_vars; decide)
/-! single steps -/
section ZSP
variable {C W : List Nat} {cm : Nat → Bool} {dp dg c : Nat}
theorem zstep_d1 (h : zdi c = true) : zstep c (C, W, cm, dp, dg, true) = some ((c - 48) :: C, W, cm, dp, 1, false) := by
  unfold zstep
  simp [h]
theorem zstep_d2 {x : Nat} (h : zdi c = true) (hd : 1 ≤ dg ∧ dg ≤ 2) : zstep c (x :: C, W, cm, dp, dg, false) = some ((10 * x + (c - 48)) :: C, W, cm, dp, dg + 1, false) := by
  unfold zstep
  simp [h, hd]
theorem zstep_d0 (h : zdi c = true) (hd : dg = 0 ∨ 3 ≤ dg) : zstep c (C, W, cm, dp, dg, false) = none := by
  unfold zstep
  cases C with
  | nil => simp [h]
  | cons x C =>
    have : ¬ (1 ≤ dg ∧ dg ≤ 2) := by omega
    simp [h, this]
theorem zstep_m : zstep 45 (C, W, cm, dp, dg, true) = some (C, 3000 :: W, cm, dp, 0, true) := by
  unfold zstep
  simp [zdi]
theorem zstep_l (h : zlt c < 8) : zstep c (C, W, cm, dp, dg, true) = some ((1000 + zlt c) :: C, W, cm, dp, 0, false) := by
  obtain ⟨h1, h2, h3⟩ := zlt_nd h
  unfold zstep
  simp [h1, h2, h3, h]
theorem zstep_b (h : dp < 4) : zstep 40 (C, W, cm, dp, dg, true) = some (C, 0 :: W, zub cm (dp + 1) false, dp + 1, 0, true) := by
  unfold zstep
  simp [zdi, h]
theorem zstep_n (h1 : c ≠ 45) (h2 : zdi c = false) (h3 : ¬ zlt c < 8) (h4 : ¬ (dp < 4 ∧ c = 40)) : zstep c (C, W, cm, dp, dg, true) = none := by
  unfold zstep
  by_cases e : c = 40
  · have : ¬ dp < 4 := fun q => h4 ⟨q, e⟩
    simp [h1, h2, e, this, zdi]
  · simp [h1, h2, h3, e]
theorem zstep_c (h : dp ≠ 0) : zstep 41 (C, W, cm, dp, dg, false) = some ((zrl 1 W C).2, (zrl 1 W C).1.tail, cm, dp - 1, 0, false) := by
  unfold zstep
  simp [zdi, h]
theorem zstep_o (h : zop c ≠ 0) (hc : ¬ (zbd (zop c) = 1 ∧ cm dp = true)) : zstep c (C, W, cm, dp, dg, false) = some ((zrl (zbd (zop c)) W C).2, zop c :: (zrl (zbd (zop c)) W C).1, (if zbd (zop c) = 1 then zub cm dp true else cm), dp, 0, true) := by
  obtain ⟨h1, h2⟩ := zop_nd h
  unfold zstep
  simp [h1, h2, h, hc]
theorem zstep_x (h1 : zdi c = true → dg = 0 ∨ 3 ≤ dg) (h2 : c = 41 → dp = 0) (h3 : zop c ≠ 0 → zbd (zop c) = 1 ∧ cm dp = true) : zstep c (C, W, cm, dp, dg, false) = none := by
  cases hd : zdi c with
  | true => exact zstep_d0 hd (h1 hd)
  | false =>
    unfold zstep
    by_cases e : c = 41
    · simp [hd, e, h2 e, zdi]
    · by_cases e2 : zop c = 0
      · simp [hd, e, e2]
      · have := h3 e2
        simp [hd, e, e2, this]
end ZSP
/-! the two readings agree -/
/-- behind one of rank r that was read well: what may not come -/
def zNx (b : Nat) (t : Nat → Nat) (r a dg : Nat) (cx : Bool) : Prop := a < b → (zdi (t a) = true → dg = 0 ∨ 3 ≤ dg) ∧ (zop (t a) ≠ 0 → zbd (zop (t a)) ≤ r ∨ (zbd (zop (t a)) = 1 ∧ cx = true))
/-- from s at a the automaton comes to a', with codes cs2 at last, all that waits binding more than r -/
def zGo2 (b : Nat) (t : Nat → Nat) (s : zAs) (r a ns : Nat) (W : List Nat) (cm : Nat → Bool) (a2 : Nat) (cs2 : List Nat) : Prop := a ≤ a2 ∧ a2 ≤ b ∧ ∃ C2 W2 cm2 dg2, zrn t s a (a2 - a) = some (C2, W2 ++ W, cm2, ns, dg2, false) ∧ cs2 = W2.reverse ++ C2 ∧ (∀ o ∈ W2, r + 1 ≤ zbd o) ∧ (∀ i, i < ns → cm2 i = cm i) ∧ (0 < r → cm2 ns = cm ns) ∧ zNx b t r a2 dg2 (cm2 ns)
/-- or it stops at a2 -/
def zSt2 (b : Nat) (t : Nat → Nat) (s : zAs) (a a2 : Nat) : Prop := a ≤ a2 ∧ a2 ≤ b ∧ ∃ s2, zrn t s a (a2 - a) = some s2 ∧ (a2 < b → zstep (t a2) s2 = none) ∧ (a2 = b → s2.2.2.2.2.2 = true ∨ 0 < s2.2.2.2.1)
theorem zSt2_t {b : Nat} {t : Nat → Nat} {s s' : zAs} {a a1 a2 : Nat} (h1 : a ≤ a1) (g : zrn t s a (a1 - a) = some s') (h : zSt2 b t s' a1 a2) : zSt2 b t s a a2 := by
  obtain ⟨k1, k2, s2, k3, k4⟩ := h
  exact ⟨by omega, k2, s2, zrn_t h1 k1 g k3, k4⟩
theorem zub_n {f : Nat → Bool} {i j : Nat} {x : Bool} (h : j ≠ i) : zub f i x j = f j := if_neg h
theorem zub_e {f : Nat → Bool} {i : Nat} {x : Bool} : zub f i x i = x := if_pos rfl
/-- a number -/
theorem znum_run {b : Nat} {t : Nat → Nat} {a ns dg : Nat} {cs W : List Nat} {cm : Nat → Bool} (ha : a < b) (hd : zdi (t a) = true) : zGo2 b t (cs, W, cm, ns, dg, true) 3 a ns W cm (a + zdc b t a) (znv t a (zdc b t a) :: cs) := by
  have s1 := zrn_1 (t := t) (s := (cs, W, cm, ns, dg, true)) (p := a) (zstep_d1 (C := cs) (W := W) (cm := cm) (dp := ns) (dg := dg) hd)
  have nx : ∀ k, 1 ≤ k → a + k ≤ b → (a + k < b → zdi (t (a + k)) = true → k = 3) → zNx b t 3 (a + k) k (cm ns) := fun k h1 h2 h3 hlt => ⟨fun q => by have := h3 hlt q; omega, fun q => Or.inl (zbd_op q).2⟩
  by_cases e1 : a + 1 < b ∧ zdi (t (a + 1)) = true
  · have s2 : zrn t (cs, W, cm, ns, dg, true) a 2 = some ((10 * (t a - 48) + (t (a + 1) - 48)) :: cs, W, cm, ns, 2, false) := by
      show (zrn t _ a 1).bind (zstep (t (a + 1))) = _
      rw [s1]
      exact zstep_d2 e1.2 (by decide)
    by_cases e2 : a + 2 < b ∧ zdi (t (a + 2)) = true
    · have e : zdc b t a = 3 := by unfold zdc; rw [if_pos e1, if_pos e2]
      have s3 : zrn t (cs, W, cm, ns, dg, true) a 3 = some ((10 * (10 * (t a - 48) + (t (a + 1) - 48)) + (t (a + 2) - 48)) :: cs, W, cm, ns, 3, false) := by
        show (zrn t _ a 2).bind (zstep (t (a + 2))) = _
        rw [s2]
        exact zstep_d2 e2.2 (by decide)
      rw [e]
      refine ⟨by omega, by omega, _, [], cm, 3, by rw [show a + 3 - a = 3 by omega]; exact s3, ?_, fun o h => absurd h List.not_mem_nil, fun _ _ => rfl, fun _ => rfl, nx 3 (by decide) (by omega) (fun _ _ => rfl)⟩
      show znv t a 3 :: cs = _
      simp [znv]
    · have e : zdc b t a = 2 := by unfold zdc; rw [if_pos e1, if_neg e2]
      rw [e]
      refine ⟨by omega, by omega, _, [], cm, 2, by rw [show a + 2 - a = 2 by omega]; exact s2, ?_, fun o h => absurd h List.not_mem_nil, fun _ _ => rfl, fun _ => rfl, nx 2 (by decide) (by omega) (fun h q => absurd ⟨h, q⟩ e2)⟩
      show znv t a 2 :: cs = _
      simp [znv]
  · have e : zdc b t a = 1 := by unfold zdc; rw [if_neg e1]
    rw [e]
    refine ⟨by omega, by omega, _, [], cm, 1, by rw [show a + 1 - a = 1 by omega]; exact s1, ?_, fun o h => absurd h List.not_mem_nil, fun _ _ => rfl, fun _ => rfl, nx 1 (by decide) (by omega) (fun h q => absurd ⟨h, q⟩ e1)⟩
    show znv t a 1 :: cs = _
    simp [znv]
/-- what the reading of m says of the automaton -/
def zSim (b : Nat) (t : Nat → Nat) (f : Nat) : Prop :=
  (∀ (r a ns dg : Nat) (cs W : List Nat) (cm : Nat → Bool) (ok : Bool) (a2 : Nat) (cs2 : List Nat), r ≤ 3 → a ≤ b → (r < 3 → ∀ o, W.head? = some o → zbd o ≤ r) → (r = 0 → cm ns = false) → zde b t f r a ns cs = some (ok, a2, cs2) → (ok = true → zGo2 b t (cs, W, cm, ns, dg, true) r a ns W cm a2 cs2) ∧ (ok = false → zSt2 b t (cs, W, cm, ns, dg, true) a a2)) ∧
  (∀ (r a ns dg : Nat) (C1 W1 W : List Nat) (cm : Nat → Bool) (ok : Bool) (a2 : Nat) (cs2 : List Nat), r < 3 → a ≤ b → (∀ o, W.head? = some o → zbd o ≤ r) → (r = 0 → cm ns = false) → (∀ o ∈ W1, r + 1 ≤ zbd o) → zNx b t (r + 1) a dg (cm ns) → zde b t f (r + 4) a ns (W1.reverse ++ C1) = some (ok, a2, cs2) → (ok = true → zGo2 b t (C1, W1 ++ W, cm, ns, dg, false) r a ns W cm a2 cs2) ∧ (ok = false → zSt2 b t (C1, W1 ++ W, cm, ns, dg, false) a a2))
