/-! A check of an index: the static that is carried and the call, in one -/
section XMAC
variable {X : xD} {K KC : pm_K} {E : pm_H → Prop} {d mj pc aux jp : Nat} {g : xb}
def xmac (g : xb) : xb := fun k ρ S => match S with
  | (n, A, [.inl q, .inl p], fs, w, F) => bif (bif zle 0 p.2.2.1 then zle (p.2.2.2 + 1) q.2.2.1 else false) then g k ρ (n, A, [.inl p], fs, w, F) else false
  | _ => false
theorem xmac_ok {i : Nat} (hc : pm_code K mj pc = some (8, .getstatic i, aux)) (hinv : ∀ (x y : Int32) (ph : pm_H), pm_inv K (pm_own K mj) (.invokestatic aux) [.null, .int x, .int y] ph = some (jp, [.int y, .int x, .null], [])) (hd : 1 ≤ d) (hr : ∀ (D : Nat) (x y : Int32) (ph : pm_H), ¬ y < 0 → y < x → pm_Rd KC false (D + 1) jp [.int y, .int x, .null] ph (some (.int y), ph, 0, 0)) (hg : xok X K KC E d mj (pc + 6) g) : xok X K KC E d mj pc (xmac g) := by
  intro D hD m hm n0 σ0 Fc cs ss k ρ G Q hB hk hρ S h σ L st ph hS
  unfold xmac at h
  split at h
  · next n A q p fs w F =>
    have hcond := (x_and h).1
    replace h := (x_and h).2
    obtain ⟨h1, h2⟩ := x_and hcond
    have h1 := zle_le h1
    have h2 := zle_le h2
    obtain ⟨g1, g2, g3, g4, g5, g6, g7, g8, g9⟩ := hS
    match st, g5 with
    | [v1, v2], ⟨⟨x, e1, gx⟩, ⟨y, e2, gy⟩, g5⟩ =>
      subst e1 e2
      have q1 := gx.2.2.1
      have q2 := gy.2.2.1
      have q3 := gy.2.2.2
      have n1 : ¬ y < 0 := by
        rw [Int32.lt_iff_toInt_lt]
        have h0 : (0 : Int32).toInt = 0 := rfl
        omega
      have n2 : y < x := by
        rw [Int32.lt_iff_toInt_lt]
        omega
      have hs : pm_step K false mj (pc, L, [.int x, .int y], ph, cs, ss) = some (.inr (.inl (jp, [.int y, .int x, .null], (pc + 6, L, [], ph, cs, ss)))) := by
        unfold pm_step
        simp only [hc]
        unfold pm_mac
        simp only [decide_eq_false n1, decide_eq_true n2, Bool.not_false, Bool.and_self, cond_true, hinv]
      obtain ⟨D', rfl⟩ : ∃ D', D = D' + 1 := ⟨D - 1, by omega⟩
      exact hB.2.1 _ _ _ _ _ _ _ _ _ _ _ _ hs (hr D' x y ph n1 n2) (hg _ hD m hm n0 σ0 Fc cs ss k ρ G Q hB hk hρ _ h σ L [.int y] ph ⟨g1, g2, g3, g4, ⟨xvI gy, trivial⟩, g6, g7, g8, g9⟩)
    | [_], ⟨_, g5⟩ => exact g5.elim
    | _ :: _ :: _ :: _, ⟨_, _, g5⟩ => exact g5.elim
  · cases h
end XMAC
theorem k8i (x y : Int32) (ph : pm_H) : pm_inv kK (pm_own kK 312) (.invokestatic 1059) [.null, .int x, .int y] ph = some (329, [.int y, .int x, .null], []) := by
  have e : pm_own kK 312 = 17 := by decide +kernel
  rw [e]
  exact k8inv .null x y [] ph (Or.inl rfl) (by decide)
theorem k8r (D : Nat) (x y : Int32) (ph : pm_H) (h0 : ¬ y < 0) (h1 : y < x) : pm_Rd kK false (D + 1) 329 [.int y, .int x, .null] ph (some (.int y), ph, 0, 0) := ⟨(k8run (C := pm_Rd kK false D) (al := false) (ph := ph) (Or.inl rfl) h0 h1).1, 7, (k8run (C := pm_Rd kK false D) (al := false) (ph := ph) (Or.inl rfl) h0 h1).2.2⟩
/-! By hand: the greatest common divisor -/
noncomputable def xhand_185 : xc := fun as ρ S => match S with
  | (n, A, sa, fs, w, F) => bif xhsV xX as [.inr (.inl (Int.negSucc 9223372036854775807, Int.ofNat 9223372036854775807)), .inr (.inl (Int.ofNat 1, Int.ofNat 9223372036854775807))] then (bif ρ (some (.inr (.inl (n, 0, Int.ofNat 1, Int.ofNat 9223372036854775807)))) (n + 1, A, sa, fs, w, F) then ρ (some (.inr (.inl (n, 0, Int.negSucc 9223372036854775807, Int.negSucc 0)))) (n + 1, A, sa, fs, w, F) else false) else false
theorem xhando_185 {E : pm_H → Prop} : xcok xX kK E 130 185 xhand_185 := sorry
