/-! The calls of the law, class and reference, printed by wip/x/h_zzcase.py -/
def xLE (n : Nat) (p : pm_H) : Prop := (xV p ∧ xtie p) ∧ xINV n p
def xLm (n : Nat) : Int := ((540 * n : Nat) : Int)
def xLI (n : Nat) (ph : pm_H) : Prop := xH xX kK (xLm n) 0 ph ∧ xLE n ph
set_option maxRecDepth 6000 in
theorem xLm_le {n : Nat} (h : n ≤ 513) : xLm n ≤ 2147483646 := by unfold xLm; omega
set_option maxRecDepth 6000 in
theorem xLm_0 {n : Nat} : (0 : Int) ≤ xLm n := by unfold xLm; omega
set_option maxRecDepth 6000 in
theorem xLm_s {n : Nat} {w : Nat} (h : w ≤ 540) : (w : Int) ≤ xLm (n + 1) := by unfold xLm; omega
set_option maxRecDepth 6000 in
theorem xshift {n w : Nat} {ph : pm_H} (h : xH xX kK (xLm n) 0 ph) (hw : w ≤ 540) : xH xX kK (xLm (n + 1)) w ph := xH_map (fun x e g => by
  cases e with
  | some p => exact g
  | none => exact ⟨g.1, by have := g.2; unfold xLm at this ⊢; omega⟩) h
def kI (v : Value) : Prop := ∃ x : Int32, v = .int x
def kJ (v : Value) : Prop := ∃ x : Int64, v = .long x
set_option maxRecDepth 6000 in
theorem yri {m : Int} {v : Option Value} {p : Int × Int} (h : xhR xX m v (some (.inl p))) : ∃ u, v = some u ∧ kI u := by
  obtain ⟨u, e, x, e2, -, -⟩ := h
  exact ⟨u, e, x, e2⟩
set_option maxRecDepth 6000 in
theorem yrj {m : Int} {v : Option Value} {p : Int × Int} (h : xhR xX m v (some (.inr (.inl p)))) : ∃ u, v = some u ∧ kJ u := by
  obtain ⟨u, e, x, e2, -, -⟩ := h
  exact ⟨u, e, x, e2⟩
set_option maxRecDepth 6000 in
theorem xat0 {m : Int} {w : Nat} {ph : pm_H} (h : xH xX kK m w ph) : ∃ f, pm_at ph 0 = some (.inr (12, f)) := by
  obtain ⟨f, a, -⟩ := xO_at h (a := 0) (i := 31) rfl rfl
  exact ⟨f, a⟩
set_option maxRecDepth 6000 in
theorem xat170 {m : Int} {w : Nat} {ph : pm_H} (h : xH xX kK m w ph) : ∃ f, pm_at ph 170 = some (.inr (13, f)) := by
  obtain ⟨f, a, -⟩ := xO_at h (a := 170) (i := 0) rfl rfl
  exact ⟨f, a⟩
/-- the text is read to its end: its size is 0 -/
def yz1 (p : pm_H) : Prop := xget p 1 1 = some (.int 0)
set_option maxRecDepth 6000 in
theorem yz1_VS : xHE xX xgA_VR xgF_VS yz1 := xHE_gA (i := 44) rfl rfl
set_option maxRecDepth 6000 in
theorem yz1_VU : xHE xX xgA_VT xgF_VU yz1 := xHE_gA (i := 44) rfl rfl
def xCr (j : Nat) : Prop := ∀ n, n ≤ 512 → ∀ ph, xH xX kK (xLm n) 0 ph → xV ph → xINV n ph → yz1 ph → ∃ v ph', pm_Rd kK false 600 j [.ref 170] ph (v, ph', 0, 0) ∧ ∃ r : Int32, v = some (.int r) ∧ xH xX kK (xLm (n + 1)) 0 ph' ∧ xV ph' ∧ xINV (n + 1) ph' ∧ yz1 ph' ∧ xget ph' 170 14 = some (.int 0)
set_option maxRecDepth 6000 in
/-- view keeps what its own guard keeps -/
theorem xPC_of {E : pm_H → Prop} (h : xHE xX xgA_G19 xgF_G19 E) : xPC E := fun P hP => xn_48_0 (xHE_and h hP)
set_option maxRecDepth 6000 in
theorem xLE_G99 (n : Nat) : xHE xX xgA_G99 xgF_G99 (xLE n) := xHE_and (xHE_and (xHE_sub (by decide +kernel) (by decide +kernel) xHEV) (xHE_sub (by decide +kernel) (by decide +kernel) xHE_ti)) (xHE_sub (by decide +kernel) (by decide +kernel) (xHEI n))
set_option maxRecDepth 6000 in
theorem xLE_G98 (n : Nat) : xHE xX xgA_G98 xgF_G98 (xLE n) := xHE_and (xHE_and (xHE_sub (by decide +kernel) (by decide +kernel) xHEV) (xHE_sub (by decide +kernel) (by decide +kernel) xHE_ti)) (xHE_sub (by decide +kernel) (by decide +kernel) (xHEI n))
set_option maxRecDepth 6000 in
theorem xLE_G96 (n : Nat) : xHE xX xgA_G96 xgF_G96 (xLE n) := xHE_and (xHE_and (xHE_sub (by decide +kernel) (by decide +kernel) xHEV) (xHE_sub (by decide +kernel) (by decide +kernel) xHE_ti)) (xHE_sub (by decide +kernel) (by decide +kernel) (xHEI n))
set_option maxRecDepth 6000 in
theorem xLE_G95 (n : Nat) : xHE xX xgA_G95 xgF_G95 (xLE n) := xHE_and (xHE_and (xHE_sub (by decide +kernel) (by decide +kernel) xHEV) (xHE_sub (by decide +kernel) (by decide +kernel) xHE_ti)) (xHE_sub (by decide +kernel) (by decide +kernel) (xHEI n))
set_option maxRecDepth 6000 in
theorem xLE_G94 (n : Nat) : xHE xX xgA_G94 xgF_G94 (xLE n) := xHE_and (xHE_and (xHE_sub (by decide +kernel) (by decide +kernel) xHEV) (xHE_sub (by decide +kernel) (by decide +kernel) xHE_ti)) (xHE_sub (by decide +kernel) (by decide +kernel) (xHEI n))
set_option maxRecDepth 6000 in
theorem xLE_G9 (n : Nat) : xHE xX xgA_G9 xgF_G9 (xLE n) := xHE_and (xHE_and (xHE_sub (by decide +kernel) (by decide +kernel) xHEV) (xHE_sub (by decide +kernel) (by decide +kernel) xHE_ti)) (xHE_sub (by decide +kernel) (by decide +kernel) (xHEI n))
set_option maxRecDepth 6000 in
theorem xLE_G8 (n : Nat) : xHE xX xgA_G8 xgF_G8 (xLE n) := xHE_and (xHE_and (xHE_sub (by decide +kernel) (by decide +kernel) xHEV) (xHE_sub (by decide +kernel) (by decide +kernel) xHE_ti)) (xHE_sub (by decide +kernel) (by decide +kernel) (xHEI n))
set_option maxRecDepth 6000 in
theorem xLE_G76 (n : Nat) : xHE xX xgA_G76 xgF_G76 (xLE n) := xHE_and (xHE_and (xHE_sub (by decide +kernel) (by decide +kernel) xHEV) (xHE_sub (by decide +kernel) (by decide +kernel) xHE_ti)) (xHE_sub (by decide +kernel) (by decide +kernel) (xHEI n))
set_option maxRecDepth 6000 in
theorem xLE_G57 (n : Nat) : xHE xX xgA_G57 xgF_G57 (xLE n) := xHE_and (xHE_and (xHE_sub (by decide +kernel) (by decide +kernel) xHEV) (xHE_sub (by decide +kernel) (by decide +kernel) xHE_ti)) (xHE_sub (by decide +kernel) (by decide +kernel) (xHEI n))
set_option maxRecDepth 6000 in
theorem xLE_G54 (n : Nat) : xHE xX xgA_G54 xgF_G54 (xLE n) := xHE_and (xHE_and (xHE_sub (by decide +kernel) (by decide +kernel) xHEV) (xHE_sub (by decide +kernel) (by decide +kernel) xHE_ti)) (xHE_sub (by decide +kernel) (by decide +kernel) (xHEI n))
set_option maxRecDepth 6000 in
theorem xLE_G49 (n : Nat) : xHE xX xgA_G49 xgF_G49 (xLE n) := xHE_and (xHE_and (xHE_sub (by decide +kernel) (by decide +kernel) xHEV) (xHE_sub (by decide +kernel) (by decide +kernel) xHE_ti)) (xHE_sub (by decide +kernel) (by decide +kernel) (xHEI n))
set_option maxRecDepth 6000 in
theorem xLE_G47 (n : Nat) : xHE xX xgA_G47 xgF_G47 (xLE n) := xHE_and (xHE_and (xHE_sub (by decide +kernel) (by decide +kernel) xHEV) (xHE_sub (by decide +kernel) (by decide +kernel) xHE_ti)) (xHE_sub (by decide +kernel) (by decide +kernel) (xHEI n))
set_option maxRecDepth 6000 in
theorem xLE_G46 (n : Nat) : xHE xX xgA_G46 xgF_G46 (xLE n) := xHE_and (xHE_and (xHE_sub (by decide +kernel) (by decide +kernel) xHEV) (xHE_sub (by decide +kernel) (by decide +kernel) xHE_ti)) (xHE_sub (by decide +kernel) (by decide +kernel) (xHEI n))
set_option maxRecDepth 6000 in
theorem xLE_G44 (n : Nat) : xHE xX xgA_G44 xgF_G44 (xLE n) := xHE_and (xHE_and (xHE_sub (by decide +kernel) (by decide +kernel) xHEV) (xHE_sub (by decide +kernel) (by decide +kernel) xHE_ti)) (xHE_sub (by decide +kernel) (by decide +kernel) (xHEI n))
set_option maxRecDepth 6000 in
theorem xLE_G42 (n : Nat) : xHE xX xgA_G42 xgF_G42 (xLE n) := xHE_and (xHE_and (xHE_sub (by decide +kernel) (by decide +kernel) xHEV) (xHE_sub (by decide +kernel) (by decide +kernel) xHE_ti)) (xHE_sub (by decide +kernel) (by decide +kernel) (xHEI n))
set_option maxRecDepth 6000 in
theorem xLE_G39 (n : Nat) : xHE xX xgA_G39 xgF_G39 (xLE n) := xHE_and (xHE_and (xHE_sub (by decide +kernel) (by decide +kernel) xHEV) (xHE_sub (by decide +kernel) (by decide +kernel) xHE_ti)) (xHE_sub (by decide +kernel) (by decide +kernel) (xHEI n))
set_option maxRecDepth 6000 in
theorem xLE_G33 (n : Nat) : xHE xX xgA_G33 xgF_G33 (xLE n) := xHE_and (xHE_and (xHE_sub (by decide +kernel) (by decide +kernel) xHEV) (xHE_sub (by decide +kernel) (by decide +kernel) xHE_ti)) (xHE_sub (by decide +kernel) (by decide +kernel) (xHEI n))
set_option maxRecDepth 6000 in
theorem xLE_G19 (n : Nat) : xHE xX xgA_G19 xgF_G19 (xLE n) := xHE_and (xHE_and (xHE_sub (by decide +kernel) (by decide +kernel) xHEV) (xHE_sub (by decide +kernel) (by decide +kernel) xHE_ti)) (xHE_sub (by decide +kernel) (by decide +kernel) (xHEI n))
set_option maxRecDepth 6000 in
theorem xLE_G17 (n : Nat) : xHE xX xgA_G17 xgF_G17 (xLE n) := xHE_and (xHE_and (xHE_sub (by decide +kernel) (by decide +kernel) xHEV) (xHE_sub (by decide +kernel) (by decide +kernel) xHE_ti)) (xHE_sub (by decide +kernel) (by decide +kernel) (xHEI n))
set_option maxRecDepth 6000 in
theorem xLE_G16 (n : Nat) : xHE xX xgA_G16 xgF_G16 (xLE n) := xHE_and (xHE_and (xHE_sub (by decide +kernel) (by decide +kernel) xHEV) (xHE_sub (by decide +kernel) (by decide +kernel) xHE_ti)) (xHE_sub (by decide +kernel) (by decide +kernel) (xHEI n))
set_option maxRecDepth 6000 in
theorem xLE_G13 (n : Nat) : xHE xX xgA_G13 xgF_G13 (xLE n) := xHE_and (xHE_and (xHE_sub (by decide +kernel) (by decide +kernel) xHEV) (xHE_sub (by decide +kernel) (by decide +kernel) xHE_ti)) (xHE_sub (by decide +kernel) (by decide +kernel) (xHEI n))
set_option maxRecDepth 6000 in
theorem xLE_G103 (n : Nat) : xHE xX xgA_G103 xgF_G103 (xLE n) := xHE_and (xHE_and (xHE_sub (by decide +kernel) (by decide +kernel) xHEV) (xHE_sub (by decide +kernel) (by decide +kernel) xHE_ti)) (xHE_sub (by decide +kernel) (by decide +kernel) (xHEI n))
set_option maxRecDepth 6000 in
theorem xLE_G100 (n : Nat) : xHE xX xgA_G100 xgF_G100 (xLE n) := xHE_and (xHE_and (xHE_sub (by decide +kernel) (by decide +kernel) xHEV) (xHE_sub (by decide +kernel) (by decide +kernel) xHE_ti)) (xHE_sub (by decide +kernel) (by decide +kernel) (xHEI n))
set_option maxRecDepth 6000 in
theorem xcr_light : xCr 210 := fun n hn ph hP hV hI hz => by
  obtain ⟨v, ph', a, b, c, e, f⟩ := xn_210_0 (E := fun p => (xV p ∧ yz1 p) ∧ xINV n p) (xHE_and (xHE_and (xHE_sub (by decide +kernel) (by decide +kernel) xHEV) (xHE_gA (i := 44) rfl rfl)) (xHE_sub (by decide +kernel) (by decide +kernel) (xHEI n))) 600 (by decide) (xLm (n + 1)) (xLm_le (by omega)) (xLm_0) [.ref 170] ph ⟨xaRi rfl (by decide), trivial⟩ (fun _ _ h => absurd h List.not_mem_nil) (xshift hP (by decide)) ⟨⟨hV, hz⟩, hI⟩
  obtain ⟨u, rfl, r, rfl⟩ := yri e
  obtain ⟨x, g1, g2, g3⟩ := xhF_getA (a := 170) (c := 14) f (List.Mem.head _) rfl rfl
  obtain rfl := xint0 g2 g3
  exact ⟨_, ph', a, r, rfl, b, c.1.1, xINV_le (Nat.le_succ n) c.2, c.1.2, g1⟩
set_option maxRecDepth 6000 in
theorem xcr_rule : xCr 217 := fun n hn ph hP hV hI hz => by
  obtain ⟨v, ph', a, z, e, -, b, c, dd, e14, e15, e16⟩ := xrule (E := fun p => yz1 p ∧ xINV n p) (xHE_and (xHE_gA (i := 44) rfl rfl) (xHE_sub (by decide +kernel) (by decide +kernel) (xHEI n))) (xLm_le (n := n + 1) (by omega)) xLm_0 (D := 600) (by decide) (xshift hP (by decide)) ⟨hz, hI⟩ hV
  obtain rfl := xint0 (x := e14) (by rw [e16]; exact Int.le_refl _) (by rw [e16]; exact Int.le_refl _)
  exact ⟨v, ph', a, z, e, b, dd, xINV_le (Nat.le_succ n) c.2, c.1, e15⟩
set_option maxRecDepth 6000 in
theorem xcr_law : xCr 290 := fun n hn ph hP hV hI hz => by
  obtain ⟨v, ph', a, z, e, b, c, dd, e14, e15, e16⟩ := xlaw (E := fun p => yz1 p ∧ xINV n p) (xHE_and (xHE_gA (i := 44) rfl rfl) (xHE_sub (by decide +kernel) (by decide +kernel) (xHEI n))) (xLm_le (n := n + 1) (by omega)) xLm_0 (D := 600) (by decide) (xshift hP (by decide)) ⟨hz, hI⟩ hV
  obtain rfl := xint0 (x := e14) (by rw [e16]; exact Int.le_refl _) (by rw [e16]; exact Int.le_refl _)
  exact ⟨v, ph', a, z, e, b, dd, xINV_le (Nat.le_succ n) c.2, c.1, e15⟩