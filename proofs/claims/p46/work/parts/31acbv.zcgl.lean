/-! the codes of a RULE that was read well are in order -/
/-- how deep the stack is behind the codes (latest first), or none: something is taken from too few -/
def zdp : List Nat → Option Nat
  | [] => some 0
  | c :: cs => (zdp cs).bind (fun d => if c = 3000 then (if 1 ≤ d then some d else none) else if 2000 ≤ c then (if 2 ≤ d ∧ c < 2007 then some (d - 1) else none) else if c < 1008 then some (d + 1) else none)
section ZCGL
variable {b : Nat} {t : Nat → Nat}
theorem zdp_m {cs : List Nat} {d : Nat} (h : zdp cs = some d) (hd : 1 ≤ d) : zdp (3000 :: cs) = some d := by
  show (zdp cs).bind _ = _
  rw [h]
  exact (if_pos hd : (if 1 ≤ d then some d else none) = some d)
theorem zdp_v {cs : List Nat} {c d : Nat} (h : zdp cs = some d) (hc : c < 1008) : zdp (c :: cs) = some (d + 1) := by
  show (zdp cs).bind _ = _
  rw [h]
  show (if c = 3000 then _ else if 2000 ≤ c then _ else if c < 1008 then some (d + 1) else none) = _
  rw [if_neg (by omega), if_neg (by omega), if_pos hc]
theorem zdp_o {cs : List Nat} {c d : Nat} (h : zdp cs = some (d + 1)) (hd : 1 ≤ d) (hc : 2000 ≤ c ∧ c < 2007) : zdp (c :: cs) = some d := by
  show (zdp cs).bind _ = _
  rw [h]
  show (if c = 3000 then _ else if 2000 ≤ c then (if 2 ≤ d + 1 ∧ c < 2007 then some (d + 1 - 1) else none) else _) = _
  rw [if_neg (by omega), if_pos hc.1, if_pos ⟨by omega, hc.2⟩]
  rfl
theorem zop_b {c : Nat} (h : zop c ≠ 0) : 2000 ≤ zop c ∧ zop c < 2007 := by
  unfold zop at h ⊢
  repeat' split
  all_goals first | decide | (exfalso; simp_all)
theorem znv_b {a : Nat} (h : zdi (t a) = true) : znv t a (zdc b t a) < 1000 := by
  have h0 : 48 ≤ t a ∧ t a ≤ 57 := of_decide_eq_true h
  have e1 : znv t a 1 = t a - 48 := by show 10 * 0 + (t (a + 0) - 48) = _; rw [Nat.add_zero]; omega
  have e2 : znv t a 2 = 10 * znv t a 1 + (t (a + 1) - 48) := rfl
  have e3 : znv t a 3 = 10 * znv t a 2 + (t (a + 2) - 48) := rfl
  unfold zdc
  by_cases g1 : a + 1 < b ∧ zdi (t (a + 1)) = true
  · have k1 : 48 ≤ t (a + 1) ∧ t (a + 1) ≤ 57 := of_decide_eq_true g1.2
    rw [if_pos g1]
    by_cases g2 : a + 2 < b ∧ zdi (t (a + 2)) = true
    · have k2 : 48 ≤ t (a + 2) ∧ t (a + 2) ≤ 57 := of_decide_eq_true g2.2
      rw [if_pos g2]
      omega
    · rw [if_neg g2]
      omega
  · rw [if_neg g1]
    omega
theorem zde_d : ∀ {f m a ns d : Nat} {cs : List Nat} {a2 : Nat} {cs2 : List Nat}, zde b t f m a ns cs = some (true, a2, cs2) → zdp cs = some d → (m ≤ 3 → zdp cs2 = some (d + 1)) ∧ (3 < m → 1 ≤ d → zdp cs2 = some d) := by
  intro f
  induction f with
  | zero => intro m a ns d cs a2 cs2 h; cases h
  | succ f ih =>
    intro m a ns d cs a2 cs2 h hd
    unfold zde at h
    by_cases e1 : m = 3
    · rw [if_pos e1] at h
      refine ⟨fun _ => ?_, fun q => absurd q (by omega)⟩
      by_cases e2 : a < b ∧ t a = 45
      · rw [if_pos e2] at h
        cases hx : zde b t f 3 (a + 1) ns cs with
        | none => rw [hx] at h; cases h
        | some x =>
          rw [hx] at h
          obtain ⟨ok1, a1, c1⟩ := x
          have h : some (ok1, a1, 3000 :: c1) = some (true, a2, cs2) := h
          cases h
          exact zdp_m ((ih hx hd).1 (Nat.le_refl 3)) (by omega)
      · rw [if_neg e2] at h
        by_cases e3 : a < b ∧ zdi (t a) = true
        · rw [if_pos e3] at h
          cases h
          exact zdp_v hd (Nat.lt_of_lt_of_le (znv_b e3.2) (by decide))
        · rw [if_neg e3] at h
          by_cases e4 : a < b ∧ zlt (t a) < 8
          · rw [if_pos e4] at h
            cases h
            exact zdp_v hd (by omega)
          · rw [if_neg e4] at h
            by_cases e5 : ns < 4 ∧ a < b ∧ t a = 40
            · rw [if_pos e5] at h
              cases hx : zde b t f 0 (a + 1) (ns + 1) cs with
              | none => rw [hx] at h; cases h
              | some x =>
                rw [hx] at h
                obtain ⟨ok1, a1, c1⟩ := x
                have h7 : (if ok1 = true ∧ a1 < b ∧ t a1 = 41 then (true, a1 + 1, c1) else (false, a1, c1)) = (true, a2, cs2) := Option.some.inj h
                by_cases e6 : ok1 = true ∧ a1 < b ∧ t a1 = 41
                · rw [if_pos e6] at h7
                  obtain ⟨e7, -, -⟩ := e6
                  have h8 : c1 = cs2 := congrArg (fun x => x.2.2) h7
                  rw [e7, h8] at hx
                  exact (ih hx hd).1 (Nat.zero_le 3)
                · rw [if_neg e6] at h7
                  exact absurd (show false = true from congrArg (fun x => x.1) h7) (by decide)
            · rw [if_neg e5] at h
              cases h
    · rw [if_neg e1] at h
      by_cases e2 : m < 3
      · rw [if_pos e2] at h
        refine ⟨fun _ => ?_, fun q => absurd q (by omega)⟩
        cases hx : zde b t f (m + 1) a ns cs with
        | none => rw [hx] at h; cases h
        | some x =>
          rw [hx] at h
          obtain ⟨ok1, a1, c1⟩ := x
          have h : (if ok1 = true then zde b t f (m + 4) a1 ns c1 else some (ok1, a1, c1)) = some (true, a2, cs2) := h
          cases ok1 with
          | false => cases h
          | true =>
            rw [if_pos rfl] at h
            exact (ih h ((ih hx hd).1 (by omega))).2 (by omega) (by omega)
      · rw [if_neg e2] at h
        refine ⟨fun q => absurd q (by omega), fun _ h1 => ?_⟩
        by_cases e3 : a < b ∧ zrk2 (m - 4) (t a) = true
        · rw [if_pos e3] at h
          have ho := (of_decide_eq_true e3.2).1
          cases hx : zde b t f (m - 3) (a + 1) ns cs with
          | none => rw [hx] at h; cases h
          | some x =>
            rw [hx] at h
            obtain ⟨ok1, a1, c1⟩ := x
            have h : (if ok1 = true then (if m = 4 then some (true, a1, zop (t a) :: c1) else zde b t f m a1 ns (zop (t a) :: c1)) else some (ok1, a1, c1)) = some (true, a2, cs2) := h
            cases ok1 with
            | false => cases h
            | true =>
              rw [if_pos rfl] at h
              by_cases e4 : m - 3 ≤ 3
              · have h2 := zdp_o ((ih hx hd).1 e4) h1 (zop_b ho)
                by_cases e5 : m = 4
                · rw [if_pos e5] at h
                  cases h
                  exact h2
                · rw [if_neg e5] at h
                  exact (ih h h2).2 (by omega) h1
              · exfalso
                have := (zbd_op ho).2
                have := (of_decide_eq_true e3.2).2
                omega
        · rw [if_neg e3] at h
          cases h
          exact hd
theorem ztp_c {f g : Nat → Nat} : ∀ {k : Nat}, (∀ i, i < k → f i = g i) → ztp f k = ztp g k
  | 0, _ => rfl
  | k + 1, h => by
    show (if f k = 3000 then ztp f k else if 2000 ≤ f k then ztp f k - 1 else ztp f k + 1) = (if g k = 3000 then ztp g k else if 2000 ≤ g k then ztp g k - 1 else ztp g k + 1)
    rw [ztp_c (fun i hi => h i (by omega)), h k (by omega)]
/-- the codes in their order -/
theorem zrv_lt {cs : List Nat} {c i : Nat} (h : i < cs.length) : (c :: cs).reverse.getD i 0 = cs.reverse.getD i 0 := by
  rw [List.getD_eq_getElem?_getD, List.getD_eq_getElem?_getD, List.reverse_cons, List.getElem?_append_left (by rw [List.length_reverse]; exact h)]
theorem zrv_e {cs : List Nat} {c : Nat} : (c :: cs).reverse.getD cs.length 0 = c := by
  rw [List.reverse_cons, List.getD_eq_getElem?_getD, List.getElem?_append_right (by rw [List.length_reverse]; exact Nat.le_refl _), List.length_reverse, Nat.sub_self]
  rfl
theorem zdp_t : ∀ {cs : List Nat} {d : Nat}, zdp cs = some d → ztp (fun i => cs.reverse.getD i 0) cs.length = d ∧ ∀ k, k < cs.length → (cs.reverse.getD k 0 = 3000 → 1 ≤ ztp (fun i => cs.reverse.getD i 0) k) ∧ (2000 ≤ cs.reverse.getD k 0 → cs.reverse.getD k 0 ≠ 3000 → 2 ≤ ztp (fun i => cs.reverse.getD i 0) k) ∧ (cs.reverse.getD k 0 < 1000 ∨ (1000 ≤ cs.reverse.getD k 0 ∧ cs.reverse.getD k 0 < 1008) ∨ (2000 ≤ cs.reverse.getD k 0 ∧ cs.reverse.getD k 0 < 2007) ∨ cs.reverse.getD k 0 = 3000)
  | [], d, h => by
    cases h
    exact ⟨rfl, fun k hk => absurd hk (Nat.not_lt_zero k)⟩
  | c :: cs, d, h => by
    cases h0 : zdp cs with
    | none =>
      have : zdp (c :: cs) = none := by
        show (zdp cs).bind _ = none
        rw [h0]
        rfl
      rw [this] at h
      cases h
    | some d0 =>
      obtain ⟨i1, i2⟩ := zdp_t h0
      have h : (if c = 3000 then (if 1 ≤ d0 then some d0 else none) else if 2000 ≤ c then (if 2 ≤ d0 ∧ c < 2007 then some (d0 - 1) else none) else if c < 1008 then some (d0 + 1) else none) = some d := by
        have h9 : (zdp cs).bind (fun d => if c = 3000 then (if 1 ≤ d then some d else none) else if 2000 ≤ c then (if 2 ≤ d ∧ c < 2007 then some (d - 1) else none) else if c < 1008 then some (d + 1) else none) = some d := h
        rw [h0] at h9
        exact h9
      have e1 : ztp (fun i => (c :: cs).reverse.getD i 0) cs.length = d0 := (ztp_c (fun i hi => zrv_lt hi)).trans i1
      refine ⟨?_, fun k hk => ?_⟩
      · show (if (c :: cs).reverse.getD cs.length 0 = 3000 then ztp (fun i => (c :: cs).reverse.getD i 0) cs.length else if 2000 ≤ (c :: cs).reverse.getD cs.length 0 then ztp (fun i => (c :: cs).reverse.getD i 0) cs.length - 1 else ztp (fun i => (c :: cs).reverse.getD i 0) cs.length + 1) = d
        rw [zrv_e, e1]
        (repeat' split at h) <;> (repeat' split) <;> first | (cases h; rfl) | (cases h; done) | (exfalso; omega)
      · by_cases e : k = cs.length
        · subst e
          rw [zrv_e, e1]
          (repeat' split at h) <;> first | (cases h; done) | exact ⟨fun q => by omega, fun q q2 => by omega, by omega⟩
        · have hk : k < cs.length := by
            have : (c :: cs).length = cs.length + 1 := rfl
            omega
          rw [zrv_lt hk, ztp_c (f := fun i => (c :: cs).reverse.getD i 0) (g := fun i => cs.reverse.getD i 0) (fun i hi => zrv_lt (by omega))]
          exact i2 k hk
/-- a RULE that was read well -/
theorem zRu_cg {ln a2 : Nat} {cs2 : List Nat} (h : zRu ln t true a2 cs2) : zcg cs2.length (fun i => cs2.reverse.getD i 0) ∧ (0 < ln → 0 < cs2.length) := by
  rcases h with ⟨h1, h2, h3, h4⟩ | ⟨h1, h2, f, h3⟩
  · subst h4
    exact ⟨⟨fun q => absurd q (Nat.lt_irrefl 0), fun k hk => absurd hk (Nat.not_lt_zero k)⟩, fun q => by omega⟩
  · have h4 := (zde_d h3 (d := 0) rfl).1 (by decide)
    obtain ⟨k1, k2⟩ := zdp_t h4
    refine ⟨⟨fun _ => by rw [k1]; decide, k2⟩, fun _ => ?_⟩
    cases cs2 with
    | nil => cases h4
    | cons c cs => exact Nat.succ_pos _
end ZCGL
