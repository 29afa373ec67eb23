/-! By hand: the greatest common divisor -/
noncomputable def xhand_185 : xc := fun as ρ S => match S with
  | (n, A, sa, fs, w, F) => bif xhsV xX as [.inr (.inl (Int.negSucc 9223372036854775807, Int.ofNat 9223372036854775807)), .inr (.inl (Int.ofNat 1, Int.ofNat 9223372036854775807))] then (bif ρ (some (.inr (.inl (n, 0, Int.ofNat 1, Int.ofNat 9223372036854775807)))) (n + 1, A, sa, fs, w, F) then ρ (some (.inr (.inl (n, 0, Int.negSucc 9223372036854775807, Int.negSucc 0)))) (n + 1, A, sa, fs, w, F) else false) else false
theorem xhando_185 {E : pm_H → Prop} : xcok xX kK E 130 185 xhand_185 := sorry
