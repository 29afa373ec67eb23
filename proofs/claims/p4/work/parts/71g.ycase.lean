/-! light and valley answer alike, printed by wip/y/h_zzza.py -/
set_option maxRecDepth 6000 in
/-- the two texts, sign by sign -/
theorem ytx_of {m : Int} {w : Nat} {ph : pm_H} (hP : xH xX kK m w ph) (h : xtie ph) : ∃ (T : Int32) (n : Nat) (t : Nat → Int32), n ≤ 80 ∧ T.toInt = (n : Int) ∧ xget ph 1 1 = some (.int T) ∧ xget ph 170 14 = some (.int T) ∧ yTX ph 2 n t ∧ yTX ph 176 n t := by
  obtain ⟨T, h1, h2, h3⟩ := h
  obtain ⟨x, g1, g2, g3⟩ := xM_fi (k := 14) hP rfl
  have e := xget_int h2 g1
  subst e
  have g2 : (0 : Int) ≤ T.toInt := g2
  have g3 : T.toInt ≤ 80 := g3
  have hx : yTX ph 2 T.toInt.toNat (fun i => match xget ph 2 i with
    | some (.int x) => x
    | _ => 0) := fun i hi => by
    obtain ⟨x, hx, -⟩ := xA_el (A := 2) (k := i) hP rfl rfl (by omega)
    show xget ph 2 i = some (.int (match xget ph 2 i with
      | some (.int x) => x
      | _ => 0))
    rw [hx]
  exact ⟨T, T.toInt.toNat, _, by omega, by omega, h1, h2, hx, fun i hi => (h3 i (by omega)).symm.trans (hx i hi)⟩

set_option maxRecDepth 6000 in
theorem xcs_lightE : xCs 127 210 [] (fun a b => kI a ∧ a = b) := fun n hn ph hI => by
  obtain ⟨v1, v2, p1, p2, f01, r1, r2, ⟨⟨x, rfl⟩, y, rfl⟩, hI2⟩ := xcs_light n hn ph hI
  obtain ⟨T, k, t, hn80, ht, h1, h2, hX2, hX0⟩ := ytx_of hI.1 hI.2.1.2
  obtain ⟨v3, p3, a1, a2, a3, -, -⟩ := xn_127_0 (E := fun p => xget p 170 14 = some (.int T) ∧ pm_at p 176 = pm_at ph 176) (xHE_and (xHE_g rfl) (xHE_at (i := 6) rfl (by decide))) 600 (by decide) (xLm n) (xLm_le (by omega)) xLm_0 [.ref 0] ph ⟨xaRi rfl (by decide), trivial⟩ (fun _ _ h => absurd h List.not_mem_nil) hI.1 ⟨h2, rfl⟩
  have e3 := yRd_det _ _ _ _ _ _ _ r1 a1
  cases e3
  have hX1 : yTX p1 176 k t := yTX_at hX0 (fun c => xget_at a3.2 c)
  obtain ⟨K, hK⟩ := zK_ex k t
  obtain ⟨vC, pC, rC, xc, e4, hc⟩ := zlightC (D := 10) hI.1 h1 ht hX2 hK
  have e5 := yRd_det _ _ _ _ _ _ _ r1 rC
  cases e5
  cases e4
  obtain ⟨vM, pM, rM, xm, e6, hm⟩ := zlightM (D := 10) a2 a3.1 ht hn80 hX1 hK
  have e7 := yRd_det _ _ _ _ _ _ _ r2 rM
  cases e7
  cases e6
  have e8 : x = y := Int32.toInt_inj.mp (hc.trans hm.symm)
  subst e8
  exact ⟨_, _, p1, p2, f01, r1, r2, ⟨⟨x, rfl⟩, rfl⟩, hI2⟩
set_option maxRecDepth 6000 in
theorem xcs_valleyE : xCs 124 202 [] (fun a b => kI a ∧ a = b) := fun n hn ph hI => by
  obtain ⟨v1, v2, p1, p2, f01, r1, r2, ⟨⟨x, rfl⟩, y, rfl⟩, hI2⟩ := xcs_valley n hn ph hI
  obtain ⟨T, k, t, hn80, ht, h1, h2, hX2, hX0⟩ := ytx_of hI.1 hI.2.1.2
  obtain ⟨v3, p3, a1, a2, a3, -, -⟩ := xn_124_0 (E := fun p => xget p 170 14 = some (.int T) ∧ pm_at p 176 = pm_at ph 176) (xHE_and (xHE_g rfl) (xHE_at (i := 6) rfl (by decide))) 600 (by decide) (xLm n) (xLm_le (by omega)) xLm_0 [.ref 0] ph ⟨xaRi rfl (by decide), trivial⟩ (fun _ _ h => absurd h List.not_mem_nil) hI.1 ⟨h2, rfl⟩
  have e3 := yRd_det _ _ _ _ _ _ _ r1 a1
  cases e3
  have hX1 : yTX p1 176 k t := yTX_at hX0 (fun c => xget_at a3.2 c)
  have hs : ∀ p, zsd k t p = -1 ∨ (3 ≤ zsd k t p ∧ zsd k t p ≤ 7) := fun p => by
    unfold zsd
    by_cases h : p < k ∧ 51 ≤ (t p).toInt ∧ (t p).toInt ≤ 55
    · rw [if_pos h]; exact Or.inr ⟨by omega, by omega⟩
    · rw [if_neg h]; exact Or.inl rfl
  have h49 : zsd k t 0 * zsd k t 1 ≤ 49 := by
    rcases hs 0 with q | ⟨q1, q2⟩ <;> rcases hs 1 with w | ⟨w1, w2⟩
    · rw [q, w]; decide
    · rw [q]; omega
    · rw [w]; omega
    · exact Int.le_trans (Int.mul_le_mul q2 w2 (by omega) (by decide)) (by decide)
  obtain ⟨F, hF⟩ := zF_ex k t (zsd k t 0 * zsd k t 1).toNat
  obtain ⟨vC, pC, rC, xc, e4, hc⟩ := zvalC (D := 10) hI.1 h1 ht hX2 hF h49
  have e5 := yRd_det _ _ _ _ _ _ _ r1 rC
  cases e5
  cases e4
  obtain ⟨vM, pM, rM, xm, e6, hm⟩ := zvalM (D := 10) (xLm_le (n := n) (by omega)) xLm_0 a2 a3.1 ht hn80 hX1 hF
  have e7 := yRd_det _ _ _ _ _ _ _ r2 rM
  cases e7
  cases e6
  have e8 : x = y := Int32.toInt_inj.mp (hc.trans hm.symm)
  subst e8
  exact ⟨_, _, p1, p2, f01, r1, r2, ⟨⟨x, rfl⟩, rfl⟩, hI2⟩
