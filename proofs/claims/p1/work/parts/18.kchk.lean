/-! One call of both: the same answer -/
def kveq (v w : Value) : Bool := match v, w with
  | .int x, .int y => fo_eq x y
  | .long x, .long y => decide (x = y)
  | _, _ => false
theorem kveq_eq {v w : Value} (h : kveq v w = true) : v = w := by
  unfold kveq at h
  split at h
  · next x y => rw [fo_eq_eq] at h; rw [of_decide_eq_true h]
  · next x y => rw [of_decide_eq_true h]
  · cases h
def kisI (b : Bool) (v : Value) : Bool := match v with
  | .int _ => b
  | .long _ => bif b then false else true
  | _ => false
theorem kisI_ok {b : Bool} {v : Value} (h : kisI b v = true) : (b = true → ∃ x, v = .int x) ∧ (b = false → ∃ x, v = .long x) := by
  unfold kisI at h
  split at h
  · next x => exact ⟨fun _ => ⟨x, rfl⟩, fun q => by (rw [q] at h; cases h)⟩
  · next x => exact ⟨fun q => by (rw [q] at h; cases h), fun _ => ⟨x, rfl⟩⟩
  · cases h
noncomputable def kisM (o : Option pm_C) : Bool := match o with
  | some (.inr (ci, _)) => Nat.beq ci 13
  | _ => false
noncomputable def kchk (F d : Nat) (b : Bool) (jx jm : Nat) (as : List Value) (ph : pm_H) : Bool := match fo_ev kK kTT F d jx (.ref 0 :: as) ph with
  | some (some v, ph1, c1, s1) => (match fo_ev kK kTT F d jm (.ref 170 :: as) ph1 with
      | some (some w, _, c2, s2) => (kveq v w && kisI b v) && (kisM (fo_at ph1 170) && (Nat.ble (c1 + c2) 1000 && Nat.ble (s1 + s2) 1000))
      | _ => false)
  | _ => false
/-- both methods come to the same: an int (b) or a long -/
def kSame (d : Nat) (b : Bool) (jx jm : Nat) (as : List Value) (ph : pm_H) : Prop := ∃ (v : Value) (ph1 ph2 : pm_H) (c1 s1 c2 s2 : Nat), pm_Rd kK false d jx (.ref 0 :: as) ph (some v, ph1, c1, s1) ∧ pm_Rd kK false d jm (.ref 170 :: as) ph1 (some v, ph2, c2, s2) ∧ c1 + c2 ≤ 1000 ∧ s1 + s2 ≤ 1000 ∧ (∃ fs, pm_at ph1 170 = some (.inr (13, fs))) ∧ (b = true → ∃ x, v = .int x) ∧ (b = false → ∃ x, v = .long x)
theorem kchk_ok {F d jx jm : Nat} {b : Bool} {as : List Value} {ph : pm_H} (h : kchk F d b jx jm as ph = true) : kSame d b jx jm as ph := by
  unfold kchk at h
  split at h
  · next v ph1 c1 s1 h1 =>
    split at h
    · next w ph2 c2 s2 h2 =>
      obtain ⟨g0, g1⟩ := pm_and h
      obtain ⟨g2, g3⟩ := pm_and g0
      obtain ⟨g4, g5⟩ := pm_and g1
      obtain ⟨g6, g7⟩ := pm_and g5
      have e := kveq_eq g2
      subst e
      refine ⟨v, ph1, ph2, c1, s1, c2, s2, fo_ev_ok kTTq F _ _ _ _ _ h1, fo_ev_ok kTTq F _ _ _ _ _ h2, Nat.le_of_ble_eq_true g6, Nat.le_of_ble_eq_true g7, ?_, kisI_ok g3⟩
      rw [fo_at_eq] at g4
      unfold kisM at g4
      split at g4
      · next ci fs hx =>
        have e9 := Nat.eq_of_beq_eq_true g4
        subst e9
        exact ⟨fs, hx⟩
      · cases g4
    · cases h
  · cases h
