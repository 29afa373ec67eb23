/-! an HOUR of the class is an HOUR of the reference; printed by wip/z/z_s_heq.py -/
theorem zTell_c {E : zEn} {P : Nat} {v : Nat → Nat} (a b : Nat) : zTell E P v a b = zTell E P v b a := by
  unfold zTell zMeet
  rw [Bool.and_comm (zSv E P v a (v b)), show zNear E.2.1 (v a) (v b) = zNear E.2.1 (v b) (v a) from decide_eq_decide.mpr (by omega)]
theorem zLi_b {E : zEn} {P G : Nat} {v : Nat → Nat} {p t : Nat} : ∀ k, (zLi E P G v p k).testBit t = true ↔ ((zHb E P G v p).testBit t = true ∨ ∃ b, b < k ∧ zTell E P v p b = true ∧ (v (24 + b)).testBit t = true) := by
  intro k
  induction k with
  | zero =>
    constructor
    · intro h; exact Or.inl h
    · rintro (h | ⟨b, hb, -⟩)
      · exact h
      · omega
  | succ k ih =>
    unfold zLi
    cases ht : zTell E P v p k with
    | true =>
      rw [cond_true, Nat.testBit_or, Bool.or_eq_true, ih]
      constructor
      · rintro ((h | ⟨b, hb, h⟩) | h)
        · exact Or.inl h
        · exact Or.inr ⟨b, by omega, h⟩
        · exact Or.inr ⟨k, by omega, ht, h⟩
      · rintro (h | ⟨b, hb, h1, h2⟩)
        · exact Or.inl (Or.inl h)
        · by_cases e : b = k
          · subst e; exact Or.inr h2
          · exact Or.inl (Or.inr ⟨b, by omega, h1, h2⟩)
    | false =>
      rw [cond_false, ih]
      constructor
      · rintro (h | ⟨b, hb, h⟩)
        · exact Or.inl h
        · exact Or.inr ⟨b, by omega, h⟩
      · rintro (h | ⟨b, hb, h1, h2⟩)
        · exact Or.inl h
        · by_cases e : b = k
          · subst e; rw [ht] at h1; exact absurd h1 (by decide)
          · exact Or.inr ⟨b, by omega, h1, h2⟩
theorem zHi_b {E : zEn} {P : Nat} {v l : Nat → Nat} {a p t : Nat} : ∀ m, (zHi E P v l a m p).testBit t = true ↔ ((l p).testBit t = true ∨ (p = a ∧ ∃ b, a < b ∧ b ≤ a + m ∧ zTell E P v a b = true ∧ (v (24 + b)).testBit t = true) ∨ (a < p ∧ p ≤ a + m ∧ zTell E P v a p = true ∧ (v (24 + a)).testBit t = true)) := by
  intro m
  induction m generalizing p with
  | zero =>
    constructor
    · intro h; exact Or.inl h
    · rintro (h | ⟨-, b, h1, h2, -⟩ | ⟨h1, h2, -⟩)
      · exact h
      · omega
      · omega
  | succ m ih =>
    unfold zHi
    cases ht : zTell E P v a (a + 1 + m) with
    | true =>
      rw [cond_true]
      unfold znu
      by_cases e1 : p = a + 1 + m
      · rw [if_pos e1, Nat.testBit_or, Bool.or_eq_true, ih, e1]
        constructor
        · rintro ((h | ⟨h, -⟩ | ⟨-, h, -⟩) | h)
          · exact Or.inl h
          · omega
          · omega
          · exact Or.inr (Or.inr ⟨by omega, by omega, ht, h⟩)
        · rintro (h | ⟨h, -⟩ | ⟨-, -, -, h⟩)
          · exact Or.inl (Or.inl h)
          · omega
          · exact Or.inr h
      · rw [if_neg e1]
        by_cases e2 : p = a
        · rw [if_pos e2, Nat.testBit_or, Bool.or_eq_true, ih, e2]
          constructor
          · rintro ((h | ⟨-, b, h1, h2, h3⟩ | ⟨h, -⟩) | h)
            · exact Or.inl h
            · exact Or.inr (Or.inl ⟨rfl, b, h1, by omega, h3⟩)
            · omega
            · exact Or.inr (Or.inl ⟨rfl, a + 1 + m, by omega, by omega, ht, h⟩)
          · rintro (h | ⟨-, b, h1, h2, h3, h4⟩ | ⟨h, -⟩)
            · exact Or.inl (Or.inl h)
            · by_cases e3 : b = a + 1 + m
              · subst e3; exact Or.inr h4
              · exact Or.inl (Or.inr (Or.inl ⟨rfl, b, h1, by omega, h3, h4⟩))
            · omega
        · rw [if_neg e2, ih]
          constructor
          · rintro (h | ⟨h, -⟩ | ⟨h1, h2, h3⟩)
            · exact Or.inl h
            · exact absurd h e2
            · exact Or.inr (Or.inr ⟨h1, by omega, h3⟩)
          · rintro (h | ⟨h, -⟩ | ⟨h1, h2, h3⟩)
            · exact Or.inl h
            · exact absurd h e2
            · exact Or.inr (Or.inr ⟨h1, by omega, h3⟩)
    | false =>
      rw [cond_false, ih]
      constructor
      · rintro (h | ⟨h0, b, h1, h2, h3⟩ | ⟨h1, h2, h3⟩)
        · exact Or.inl h
        · exact Or.inr (Or.inl ⟨h0, b, h1, by omega, h3⟩)
        · exact Or.inr (Or.inr ⟨h1, by omega, h3⟩)
      · rintro (h | ⟨h0, b, h1, h2, h3, h4⟩ | ⟨h1, h2, h3, h4⟩)
        · exact Or.inl h
        · by_cases e3 : b = a + 1 + m
          · subst e3; rw [ht] at h3; exact absurd h3 (by decide)
          · exact Or.inr (Or.inl ⟨h0, b, h1, by omega, h3, h4⟩)
        · by_cases e3 : p = a + 1 + m
          · rw [e3, ht] at h3; exact absurd h3 (by decide)
          · exact Or.inr (Or.inr ⟨h1, by omega, h3, h4⟩)
theorem zHo_b {E : zEn} {P G : Nat} {v : Nat → Nat} {t : Nat} : ∀ a, a ≤ P → ∀ p, p < P → ((zHo E P G v a p).testBit t = true ↔ ((zHb E P G v p).testBit t = true ∨ ∃ b, b < P ∧ b ≠ p ∧ (b < a ∨ p < a) ∧ zTell E P v p b = true ∧ (v (24 + b)).testBit t = true)) := by
  intro a
  induction a with
  | zero =>
    intro _ p hp
    constructor
    · intro h; exact Or.inl h
    · rintro (h | ⟨b, -, -, h, -⟩)
      · exact h
      · omega
  | succ a ih =>
    intro ha p hp
    show (zHi E P v (zHo E P G v a) a (P - (a + 1)) p).testBit t = true ↔ _
    rw [zHi_b, ih (by omega) p hp]
    constructor
    · rintro ((h | ⟨b, h1, h2, h3, h4⟩) | ⟨h0, b, h1, h2, h3, h4⟩ | ⟨h1, h2, h3, h4⟩)
      · exact Or.inl h
      · exact Or.inr ⟨b, h1, h2, by omega, h4⟩
      · subst h0; exact Or.inr ⟨b, by omega, by omega, by omega, h3, h4⟩
      · exact Or.inr ⟨a, by omega, by omega, by omega, (zTell_c p a).trans h3, h4⟩
    · rintro (h | ⟨b, h1, h2, h3, h4, h5⟩)
      · exact Or.inl (Or.inl h)
      · by_cases q1 : b < a ∨ p < a
        · exact Or.inl (Or.inr ⟨b, h1, h2, q1, h4, h5⟩)
        · by_cases q2 : p = a
          · subst q2; exact Or.inr (Or.inl ⟨rfl, b, by omega, by omega, h4, h5⟩)
          · have q3 : b = a := by omega
            subst q3
            exact Or.inr (Or.inr ⟨by omega, by omega, (zTell_c b p).trans h4, h5⟩)
theorem zH_eq {E : zEn} {P G : Nat} {v : Nat → Nat} {p : Nat} (hp : p < P) : zHo E P G v P p = zLi E P G v p P := by
  apply Nat.eq_of_testBit_eq
  intro t
  have h1 := zHo_b (E := E) (G := G) (v := v) (t := t) P (Nat.le_refl P) p hp
  have h2 := zLi_b (E := E) (P := P) (G := G) (v := v) (p := p) (t := t) P
  have h3 : (zHo E P G v P p).testBit t = true ↔ (zLi E P G v p P).testBit t = true := by
    rw [h1, h2]
    constructor
    · rintro (h | ⟨b, h1, h2, h3, h4⟩)
      · exact Or.inl h
      · exact Or.inr ⟨b, h1, h4⟩
    · rintro (h | ⟨b, h1, h4, h5⟩)
      · exact Or.inl h
      · by_cases e : b = p
        · subst e
          refine Or.inl ?_
          unfold zHb
          rw [Nat.testBit_or, h5]
          rfl
        · exact Or.inr ⟨b, h1, e, by omega, h4, h5⟩
  cases ha : (zHo E P G v P p).testBit t <;> cases hb : (zLi E P G v p P).testBit t <;> simp [ha, hb] at h3 ⊢
theorem zHr_eq {E : zEn} {P G : Nat} {v : Nat → Nat} : zHr E P G v = zHq E P G v := by
  funext i
  unfold zHr zHq
  by_cases h : 24 ≤ i ∧ i < 24 + P
  · rw [if_pos h, if_pos h]
    exact zH_eq (by omega)
  · rw [if_neg h, if_neg h]
