/-! a run has one end alone -/
theorem yTn_det {K : pm_K} {C1 C2 : Nat → List Value → pm_H → pm_R → Prop} (hC : ∀ j as ph r1 r2, C1 j as ph r1 → C2 j as ph r2 → r1 = r2) (mj : Nat) : ∀ (n1 n2 : Nat) (x : pm_S) (r1 r2 : pm_R), pm_Tn K false C1 mj n1 x r1 → pm_Tn K false C2 mj n2 x r2 → r1 = r2 := by
  intro n1
  induction n1 with
  | zero => intro n2 x r1 r2 h1 _; exact h1.elim
  | succ n1 ih =>
    intro n2 x r1 r2 h1 h2
    cases n2 with
    | zero => exact h2.elim
    | succ n2 =>
      rw [pm_Tn] at h1 h2
      cases hx : pm_step K false mj x with
      | none => rw [hx] at h1; exact h1.elim
      | some o =>
        rw [hx] at h1 h2
        match o, h1, h2 with
        | .inl x', h1, h2 => exact ih n2 x' r1 r2 h1 h2
        | .inr (.inl (j, as, (pc, L, st, ph, cs, ss))), ⟨v1, p1, c1, s1, a1, b1⟩, ⟨v2, p2, c2, s2, a2, b2⟩ =>
          have e := hC _ _ _ _ _ a1 a2
          cases e
          exact ih n2 _ r1 r2 b1 b2
        | .inr (.inr v), h1, h2 =>
          have h1 : r1 = (v, x.2.2.2) := h1
          have h2 : r2 = (v, x.2.2.2) := h2
          rw [h1, h2]
theorem yRd_det {K : pm_K} : ∀ (d1 d2 mj : Nat) (as : List Value) (ph : pm_H) (r1 r2 : pm_R), pm_Rd K false d1 mj as ph r1 → pm_Rd K false d2 mj as ph r2 → r1 = r2 := by
  intro d1
  induction d1 with
  | zero => intro d2 mj as ph r1 r2 h1 _; exact h1.elim
  | succ d1 ih =>
    intro d2 mj as ph r1 r2 h1 h2
    cases d2 with
    | zero => exact h2.elim
    | succ d2 =>
      obtain ⟨-, n1, g1⟩ := h1
      obtain ⟨-, n2, g2⟩ := h2
      exact yTn_det (fun j as ph r1 r2 a b => ih d2 j as ph r1 r2 a b) mj n1 n2 _ _ _ g1 g2
