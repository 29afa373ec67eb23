/-! the acts of a DAY one behind another, on paper -/
noncomputable def zAr (E : zEn) (P G : Nat) (v t : Nat → Nat) : Nat → Option (Nat → Nat)
  | 0 => some v
  | i + 1 => (zAr E P G v t i).bind (fun v2 => zAct E P G v2 t (zDp t i))
/-- i of k acts could be done -/
def zAs2 (E : zEn) (P G : Nat) (v t : Nat → Nat) (k i : Nat) (v2 : Nat → Nat) : Prop := i ≤ k ∧ zAr E P G v t i = some v2 ∧ (i < k → zAct E P G v2 t (zDp t i) = none)
section ZAR
variable {E : zEn} {P G : Nat} {v t : Nat → Nat}
theorem zAr_s {i : Nat} {v2 : Nat → Nat} (h : zAr E P G v t i = some v2) : zAr E P G v t (i + 1) = zAct E P G v2 t (zDp t i) := by
  show (zAr E P G v t i).bind _ = _
  rw [h]
  rfl
theorem zAr_n {i : Nat} (h : zAr E P G v t i = none) : ∀ m, zAr E P G v t (i + m) = none
  | 0 => h
  | m + 1 => by
    show (zAr E P G v t (i + m)).bind _ = none
    rw [zAr_n h m]
    rfl
theorem zAs2_u {k i i' : Nat} {v2 v2' : Nat → Nat} (h : zAs2 E P G v t k i v2) (h' : zAs2 E P G v t k i' v2') : i = i' ∧ v2 = v2' := by
  obtain ⟨a1, a2, a3⟩ := h
  obtain ⟨b1, b2, b3⟩ := h'
  have key : ∀ {i i' : Nat} {v2 v2' : Nat → Nat}, zAr E P G v t i = some v2 → (i < k → zAct E P G v2 t (zDp t i) = none) → i' ≤ k → zAr E P G v t i' = some v2' → ¬ i < i' := fun {i i' v2 v2'} c1 c2 c3 c4 hlt => by
    have c5 : zAr E P G v t (i + 1) = none := by
      rw [zAr_s c1]
      exact c2 (by omega)
    have c6 := zAr_n c5 (i' - (i + 1))
    rw [show i + 1 + (i' - (i + 1)) = i' by omega, c4] at c6
    cases c6
  have e : i = i' := by
    have k1 := key a2 a3 b1 b2
    have k2 := key b2 b3 a1 a2
    omega
  subst e
  rw [a2] at b2
  cases b2
  exact ⟨rfl, rfl⟩
theorem zOk_u {R C : Nat} (h : zOk R C P G v) {i x : Nat} (h0 : i < 40) (h1 : i < 8 → x < R * C) (h2 : 8 ≤ i → i < 16 → x < 8) (h3 : 16 ≤ i → i < 24 → x ≤ 4) (h4 : 24 ≤ i → i < 32 → x < 256) (h5 : 32 ≤ i → x < R * C) (hP : P ≤ 8) : zOk R C P G (znu v i x) := by
  obtain ⟨g1, g2, g3⟩ := h
  refine ⟨fun p hp => ?_, fun g hg => ?_, ?_⟩
  · obtain ⟨k1, k2, k3, k4⟩ := g1 p hp
    refine ⟨?_, ?_, ?_, ?_⟩
    · by_cases e : p = i
      · subst e; rw [znu_e]; exact h1 (by omega)
      · rw [znu_n e]; exact k1
    · by_cases e : 8 + p = i
      · subst e; rw [znu_e]; exact h2 (by omega) (by omega)
      · rw [znu_n e]; exact k2
    · by_cases e : 16 + p = i
      · subst e; rw [znu_e]; exact h3 (by omega) (by omega)
      · rw [znu_n e]; exact k3
    · by_cases e : 24 + p = i
      · subst e; rw [znu_e]; exact h4 (by omega) (by omega)
      · rw [znu_n e]; exact k4
  · by_cases e : 32 + g = i
    · subst e; rw [znu_e]; exact h5 (by omega)
    · rw [znu_n e]; exact g2 g hg
  · rw [znu_n (by omega)]; exact g3
theorem zbk_lt {R C : Nat} {rk : Nat → Bool} {f w : Nat} (h : 0 ≤ zbk R C rk f w) : (zbk R C rk f w).toNat < R * C := by
  unfold zbk at h ⊢
  by_cases e : zin R C f w = true ∧ rk (zto C f w) = false
  · rw [if_pos e]
    exact zto_lt e.1
  · rw [if_neg e] at h
    omega
theorem zAct_ok {b i : Nat} {v2 : Nat → Nat} (hO : zOk E.1 E.2.1 P G v) (hP : P ≤ 8) (hG : G ≤ 8) (h40 : v 40 + 9 < 999999) (hg : zDg b t i) (h : zAct E P G v t (zDp t i) = some v2) : zOk E.1 E.2.1 P G v2 ∧ v2 40 ≤ v 40 + 9 := by
  obtain ⟨g1, g2, g3⟩ := hg
  obtain ⟨s, hs⟩ : ∃ s, zDp t i = s := ⟨_, rfl⟩
  rw [hs] at h g1 g2 g3
  have q1 := zdi_d (g3 0 g1)
  rw [Nat.add_zero] at q1
  unfold zAct at h
  by_cases e1 : t s = 110
  · rw [if_pos e1] at h
    cases h
    exact ⟨zHqn_ok hO hP hG _ (by omega), by rw [zHqn_40 hP]; omega⟩
  · rw [if_neg e1] at h
    by_cases e2 : t s = 102
    · rw [if_pos e2] at h
      split at h
      · next q =>
        cases h
        exact ⟨zOk_u hO (by omega) (fun q => by omega) (fun _ _ => q.2) (fun q => by omega) (fun q => by omega) (fun q => by omega) hP, by rw [znu_n (by omega)]; omega⟩
      · cases h
    · rw [if_neg e2] at h
      by_cases e3 : t s = 103
      · rw [if_pos e3] at h
        split at h
        · next q =>
          cases h
          exact ⟨zOk_u hO (by omega) (fun _ => zbk_lt q.2.2) (fun q => by omega) (fun q => by omega) (fun q => by omega) (fun q => by omega) hP, by rw [znu_n (by omega)]; omega⟩
        · cases h
      · rw [if_neg e3] at h
        by_cases e4 : t s = 98
        · rw [if_pos e4] at h
          split at h
          · next q =>
            cases h
            exact ⟨zOk_u hO (by omega) (fun q => by omega) (fun q => by omega) (fun _ _ => q.2) (fun q => by omega) (fun q => by omega) hP, by rw [znu_n (by omega)]; omega⟩
          · cases h
        · rw [if_neg e4] at h
          split at h
          · next q =>
            cases h
            have hmm : E.2.1 * (t (s + 2) - 48) + (t (s + 3) - 48) < E.1 * E.2.1 := by
              have := Nat.mul_le_mul_left E.2.1 (show t (s + 2) - 48 + 1 ≤ E.1 by omega)
              rw [Nat.mul_add, Nat.mul_one, Nat.mul_comm E.2.1 E.1] at this
              omega
            exact ⟨zOk_u hO (by omega) (fun q => by omega) (fun q => by omega) (fun q => by omega) (fun q => by omega) (fun _ => hmm) hP, by rw [znu_n (by omega)]; omega⟩
          · cases h
theorem zAr_ok {b k : Nat} (hO : zOk E.1 E.2.1 P G v) (hP : P ≤ 8) (hG : G ≤ 8) (hg : zDok b t k) (h40 : v 40 + 9 * k < 999000) : ∀ i, i ≤ k → ∀ {v2 : Nat → Nat}, zAr E P G v t i = some v2 → zOk E.1 E.2.1 P G v2 ∧ v2 40 ≤ v 40 + 9 * i
  | 0, _, v2, h => by
    cases h
    exact ⟨hO, by omega⟩
  | i + 1, hi, v2, h => by
    cases h1 : zAr E P G v t i with
    | none =>
      have : zAr E P G v t (i + 1) = none := by
        show (zAr E P G v t i).bind _ = none
        rw [h1]
        rfl
      rw [this] at h
      cases h
    | some v1 =>
      rw [zAr_s h1] at h
      obtain ⟨g1, g2⟩ := zAr_ok hO hP hG hg h40 i (by omega) h1
      obtain ⟨g3, g4⟩ := zAct_ok g1 hP hG (by omega) (hg i (by omega)) h
      exact ⟨g3, by omega⟩
end ZAR
